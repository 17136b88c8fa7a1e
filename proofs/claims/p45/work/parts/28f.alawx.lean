section
/-! the law: its cases, the relation kept -/
section LWC
variable {p : Program} {l : Launch} {e : Env} {s : State} {m : MethodId} {below : List Frame} {meth : Method} {c : Code} {G : KG} {nm : String} {b L x y o : Nat} {xs : Nat → Int32} {i : Int32} {f : Nat → Int64} {wx wm : va_W} {kc ks : Nat}
theorem z_pop2 {args : Array Value} {R : Room} {nL : Nat} {A : Nat → Prop} {Q : State → Prop} {cc : ByteArray} {own : String} {rt : Option FieldType} {pc : Nat} {rest : List Value} {ws : va_W} {lv : List (Nat × Value)} {va : Value} (X : ZC p s m args meth c cc nL own G A rt nm) (hdg : decode cc pc = .ok (.pop2, 1)) (hva : va.category = 2) (kz : Z p l e R s m args below meth c nL G A Q (pc + 1) lv rest ws kc ks) : Z p l e R s m args below meth c nL G A Q pc lv (va :: rest) ws kc ks := fun H locs ls hP hD hS hl => lv_pop2_2 X.1 X.2.1 hdg hva (kz H locs ls hP hD hS hl)
abbrev lv5 (b x y o : Nat) (i : Int32) : List (Nat × Value) := [(0, .ref b), (1, .ref x), (2, .ref y), (3, .ref o), (4, .int i)]
theorem lc_0 (X : ZC p s m #[Value.ref b] meth c code 8 RL G (fun q : Nat => s.heap.size ≤ q) ret nm) (hX : va_X b L xs s s.heap) (hbl : b < s.heap.size) (hbA : ¬ s.heap.size ≤ b) (hi0 : 0 ≤ i.toInt) (hi1 : i.toInt + 10 ≤ (L : Int) ∧ L ≤ 5120) (hx : CWx G x wx) (hy : MWx G y wm) (hR : RelQ G wx wm) (hc : kc ≤ room_1.cells) (hs : ks ≤ room_1.slots) (hK : ∀ wx' wm', CWx G x wx' → wx'.length = wx.length → MWx G y wm' → RelQ G wx' wm' → Z p l e room_1 s m #[Value.ref b] below meth c 8 G (fun q : Nat => s.heap.size ≤ q) (lw_Z below #[Value.ref b] s) 2192 (lv5 b x y o i) [] (wx' ++ wm' ++ [(o, aJ G 1 f)]) kc ks) : Z p l e room_1 s m #[Value.ref b] below meth c 8 G (fun q : Nat => s.heap.size ≤ q) (lw_Z below #[Value.ref b] s) 248 (lv5 b x y o i) [] (wx ++ wm ++ [(o, aJ G 1 f)]) kc ks := by
  obtain ⟨n, h9, s9, c9, f9, g9, ⟨n0, n1⟩, rc9, e9, ⟨hn1, hn2⟩, ⟨a2, b2⟩, ⟨a3, b3⟩, ⟨a4, b4⟩, a5, b5⟩ := id hR.m
  refine z_aload_n X d_lw_248 rfl 1 rfl ?_
  refine z_aload_n X d_lw_249 rfl 0 rfl ?_
  refine z_iload X d_lw_250 4 rfl ?_
  refine z_iconst X d_lw_252 (v := 1) (by decide) ?_
  refine z_iadd X d_lw_253 ?_
  refine z_sld X hX hbl hbA (lw_in hi0 hi1 (k := 1) (by decide) (by decide)) d_lw_254 (v := xs (i + 1).toNatClampNeg) rfl ?_
  rcases (by omega : n.toInt ≤ 76 ∨ 77 ≤ n.toInt) with hq | hq
  · skip
    rw [List.append_assoc]
    refine cx_callG (rm := { frames := 1, cells := 0, slots := 0, locals := 22 }) (m0 := C_v_X10_sign_0.2.2.2.2.1) (Ψ := SgnE G 3 1 4 n f9 (xs (i + 1).toNatClampNeg)) (rest := []) (As := [.int (xs (i + 1).toNatClampNeg)]) X k_L_23 (fun ad w0 hW hag => ac_sgx l G hW ((fget_eq (hag 3 1 (by decide))).trans hn1) ((hag 4 0 (by decide)).trans a5) ⟨n0, hq⟩) ⟨rfl, rfl⟩ (by decide) (fun r w1 wc hl h => h.app ⟨by omega, by omega⟩) hx d_lw_255 ⟨by decide, by decide⟩ ⟨hc, hs⟩ rfl rfl (by decide) rfl (fun r wx' hz hx' hl' hfx => ?_)
    rw [← List.append_assoc]
    obtain ⟨v, rfl⟩ := hz.ret
    refine z_pop X d_lw_258 rfl ?_
    refine z_aload_n X d_lw_259 rfl 2 rfl ?_
    refine z_aload_n X d_lw_260 rfl 0 rfl ?_
    refine z_iload X d_lw_261 4 rfl ?_
    refine z_iconst X d_lw_263 (v := 1) (by decide) ?_
    refine z_iadd X d_lw_264 ?_
    refine z_sld X hX hbl hbA (lw_in hi0 hi1 (k := 1) (by decide) (by decide)) d_lw_265 (v := xs (i + 1).toNatClampNeg) rfl ?_
    refine mx_callG (rm := { frames := 0, cells := 0, slots := 0, locals := 0 }) (m0 := C_v_X11_sign_0.2.2.2.2.1) (Ψ := SgnE G 0 19 14 n g9 (xs (i + 1).toNatClampNeg)) (wa := wx') (rest := []) (As := [.int (xs (i + 1).toNatClampNeg)]) X k_L_27 (fun ad hW => ac_sgm l G hW hn2 b5 ⟨n0, hq⟩) ⟨rfl, rfl⟩ hy d_lw_266 ⟨by decide, by decide⟩ ⟨hc, hs⟩ rfl rfl (Nat.le_of_ble_eq_true rfl) rfl (fun r wm' hz2 hy' hfm => ?_)
    obtain ⟨v2, rfl⟩ := hz2.ret
    obtain ⟨ev0, hM'⟩ := RelM.sgn hR.m hfx hfm (by decide) ⟨n0, hq⟩ e9 hz hz2
    have hR' : RelQ G wx' wm' := RelQ.of (hM') (hR.a.keep hfx hfm (by decide)) (hR.d.keep hfx hfm (by decide)) (hR.c.keep hfx hfm (by decide)) (hR.x.keep hfx hfm (by decide)) (hR.b.keep hfx hfm (by decide)) (hR.h.keep hfx hfm (by decide)) (hR.t.keep hfx hfm (by decide)) (hR.k.keep hfx hfm (by decide))
    have ev : v.toInt = v2.toInt := congrArg Int32.toInt ev0
    refine z_pop X d_lw_269 rfl ?_
    refine z_goto X d_lw_270 (tgt := 2192) (by decide) ?_
    exact hK wx' wm' hx' hl' hy' hR'
  · skip
    rw [List.append_assoc]
    refine cx_callP (rest := []) (As := [.int (xs (i + 1).toNatClampNeg)]) (μ := muF x [.int (xs (i + 1).toNatClampNeg)] [.int n]) X k_L_23 (ac_v_X10_sign_1 l G) (by decide) hx (fun ad w0 he hag => pre_F (C := C_v_X10_sign_1) (ts := [tI0]) (As := [.int (xs (i + 1).toNatClampNeg)]) (t0 := (0, 77, 80)) rfl rfl (Nat.le_of_ble_eq_true rfl) ⟨fun _ => vty_i0 _, trivial⟩ (fun _ => vty_i (by omega) (by omega)) (fun q hq => by cases hq) ad w0 he ((hag 3 1 (by decide)).trans hn1)) rfl d_lw_255 ⟨by decide, by decide⟩ ⟨hc, hs⟩ rfl rfl (by decide) rfl (fun ad r wx' hz hx' hl' => ?_)
    rw [← List.append_assoc]
    have hfx := pz_fx hz
    obtain ⟨v, ν, rfl, v0, v1, e50, eA, eF, hF, hL⟩ := pz_a hz rfl rfl rfl
    refine z_pop X d_lw_258 rfl ?_
    refine z_aload_n X d_lw_259 rfl 2 rfl ?_
    refine z_aload_n X d_lw_260 rfl 0 rfl ?_
    refine z_iload X d_lw_261 4 rfl ?_
    refine z_iconst X d_lw_263 (v := 1) (by decide) ?_
    refine z_iadd X d_lw_264 ?_
    refine z_sld X hX hbl hbA (lw_in hi0 hi1 (k := 1) (by decide) (by decide)) d_lw_265 (v := xs (i + 1).toNatClampNeg) rfl ?_
    refine mx_callP (wa := wx') (rest := []) (As := [.int (xs (i + 1).toNatClampNeg)]) (μ := muF y [.int (xs (i + 1).toNatClampNeg)] [.int n]) X k_L_27 (ac_v_X11_sign_1 l G) hy (fun ad he => pre_F (C := C_v_X11_sign_1) (ts := [tI0]) (As := [.int (xs (i + 1).toNatClampNeg)]) (t0 := (0, 77, 80)) rfl rfl (Nat.le_of_ble_eq_true rfl) ⟨fun _ => vty_i0 _, trivial⟩ (fun _ => vty_i (by omega) (by omega)) (fun q hq => by cases hq) ad wm he hn2) rfl d_lw_266 ⟨by decide, by decide⟩ ⟨hc, hs⟩ rfl rfl (Nat.le_of_ble_eq_true rfl) rfl (fun ad2 r wm' hz2 hy' => ?_)
    have hfm := pz_fx hz2
    obtain ⟨v2, ν2, rfl, w0, w1, f50, fA, fF, hF2, hL2⟩ := pz_a hz2 rfl rfl rfl
    have m0 : ν 100 = .int n := eF 100 (by decide) (by decide)
    have m2 : ν2 100 = .int n := fF 100 (by decide) (by decide)
    have v0 : -1 ≤ v.toInt := v0
    have v1 : v.toInt ≤ -1 := v1
    have w0 : -1 ≤ v2.toInt := w0
    have w1 : v2.toInt ≤ -1 := w1
    have ev : v.toInt = v2.toInt := by omega
    have hR' : RelQ G wx' wm' := RelQ.of (hR.m.keep hfx hfm (by decide)) (hR.a.keep hfx hfm (by decide)) (hR.d.keep hfx hfm (by decide)) (hR.c.keep hfx hfm (by decide)) (hR.x.keep hfx hfm (by decide)) (hR.b.keep hfx hfm (by decide)) (hR.h.keep hfx hfm (by decide)) (hR.t.keep hfx hfm (by decide)) (hR.k.keep hfx hfm (by decide))
    refine z_pop X d_lw_269 rfl ?_
    refine z_goto X d_lw_270 (tgt := 2192) (by decide) ?_
    exact hK wx' wm' hx' hl' hy' hR'
theorem lc_1 (X : ZC p s m #[Value.ref b] meth c code 8 RL G (fun q : Nat => s.heap.size ≤ q) ret nm) (hX : va_X b L xs s s.heap) (hbl : b < s.heap.size) (hbA : ¬ s.heap.size ≤ b) (hi0 : 0 ≤ i.toInt) (hi1 : i.toInt + 10 ≤ (L : Int) ∧ L ≤ 5120) (hx : CWx G x wx) (hy : MWx G y wm) (hR : RelQ G wx wm) (hc : kc ≤ room_1.cells) (hs : ks ≤ room_1.slots) (hK : ∀ wx' wm', CWx G x wx' → wx'.length = wx.length → MWx G y wm' → RelQ G wx' wm' → Z p l e room_1 s m #[Value.ref b] below meth c 8 G (fun q : Nat => s.heap.size ≤ q) (lw_Z below #[Value.ref b] s) 2192 (lv5 b x y o i) [] (wx' ++ wm' ++ [(o, aJ G 1 f)]) kc ks) : Z p l e room_1 s m #[Value.ref b] below meth c 8 G (fun q : Nat => s.heap.size ≤ q) (lw_Z below #[Value.ref b] s) 273 (lv5 b x y o i) [] (wx ++ wm ++ [(o, aJ G 1 f)]) kc ks := by
  obtain ⟨n, h9, s9, c9, f9, g9, ⟨n0, n1⟩, rc9, e9, ⟨hn1, hn2⟩, ⟨a2, b2⟩, ⟨a3, b3⟩, ⟨a4, b4⟩, a5, b5⟩ := id hR.m
  refine z_aload_n X d_lw_273 rfl 1 rfl ?_
  refine z_aload_n X d_lw_274 rfl 0 rfl ?_
  refine z_iload X d_lw_275 4 rfl ?_
  refine z_iconst X d_lw_277 (v := 1) (by decide) ?_
  refine z_iadd X d_lw_278 ?_
  refine z_sld X hX hbl hbA (lw_in hi0 hi1 (k := 1) (by decide) (by decide)) d_lw_279 (v := xs (i + 1).toNatClampNeg) rfl ?_
  rcases (by omega : (xs (i + 1).toNatClampNeg).toInt ≤ -1 ∨ (0 ≤ (xs (i + 1).toNatClampNeg).toInt ∧ (xs (i + 1).toNatClampNeg).toInt ≤ n.toInt) ∨ n.toInt + 1 ≤ (xs (i + 1).toNatClampNeg).toInt) with hq | hq | hq
  · skip
    rw [List.append_assoc]
    refine cx_callP (rest := []) (As := [.int (xs (i + 1).toNatClampNeg)]) (μ := muF x [.int (xs (i + 1).toNatClampNeg)] [.int n]) X k_L_28 (ac_v_X10_end_0 l G) (by decide) hx (fun ad w0 he hag => pre_F (C := C_v_X10_end_0) (ts := [(0, -2147483648, -1)]) (As := [.int (xs (i + 1).toNatClampNeg)]) (t0 := (0, 0, 80)) rfl rfl (Nat.le_of_ble_eq_true rfl) ⟨fun _ => vty_i (i32_lo _) (by omega), trivial⟩ (fun _ => vty_i (by omega) (by omega)) (fun q hq => by cases hq) ad w0 he ((hag 3 1 (by decide)).trans hn1)) rfl d_lw_280 ⟨by decide, by decide⟩ ⟨hc, hs⟩ rfl rfl (by decide) rfl (fun ad r wx' hz hx' hl' => ?_)
    rw [← List.append_assoc]
    have hfx := pz_fx hz
    obtain ⟨v, ν, rfl, v0, v1, e50, eA, eF, hF, hL⟩ := pz_a hz rfl rfl rfl
    refine z_pop X d_lw_283 rfl ?_
    refine z_aload_n X d_lw_284 rfl 2 rfl ?_
    refine z_aload_n X d_lw_285 rfl 0 rfl ?_
    refine z_iload X d_lw_286 4 rfl ?_
    refine z_iconst X d_lw_288 (v := 1) (by decide) ?_
    refine z_iadd X d_lw_289 ?_
    refine z_sld X hX hbl hbA (lw_in hi0 hi1 (k := 1) (by decide) (by decide)) d_lw_290 (v := xs (i + 1).toNatClampNeg) rfl ?_
    refine mx_callP (wa := wx') (rest := []) (As := [.int (xs (i + 1).toNatClampNeg)]) (μ := muF y [.int (xs (i + 1).toNatClampNeg)] [.int n]) X k_L_32 (ac_v_X11_end_0 l G) hy (fun ad he => pre_F (C := C_v_X11_end_0) (ts := [(0, -2147483648, -1)]) (As := [.int (xs (i + 1).toNatClampNeg)]) (t0 := (0, 0, 80)) rfl rfl (Nat.le_of_ble_eq_true rfl) ⟨fun _ => vty_i (i32_lo _) (by omega), trivial⟩ (fun _ => vty_i (by omega) (by omega)) (fun q hq => by cases hq) ad wm he hn2) rfl d_lw_291 ⟨by decide, by decide⟩ ⟨hc, hs⟩ rfl rfl (Nat.le_of_ble_eq_true rfl) rfl (fun ad2 r wm' hz2 hy' => ?_)
    have hfm := pz_fx hz2
    obtain ⟨v2, ν2, rfl, w0, w1, f50, fA, fF, hF2, hL2⟩ := pz_a hz2 rfl rfl rfl
    have m0 : ν 100 = .int n := eF 100 (by decide) (by decide)
    have m2 : ν2 100 = .int n := fF 100 (by decide) (by decide)
    have v0 : 0 ≤ v.toInt := v0
    have v1 : v.toInt ≤ 0 := v1
    have w0 : 0 ≤ v2.toInt := w0
    have w1 : v2.toInt ≤ 0 := w1
    have ev : v.toInt = v2.toInt := by omega
    have hR' : RelQ G wx' wm' := RelQ.of (hR.m.keep hfx hfm (by decide)) (hR.a.keep hfx hfm (by decide)) (hR.d.keep hfx hfm (by decide)) (hR.c.keep hfx hfm (by decide)) (hR.x.keep hfx hfm (by decide)) (hR.b.keep hfx hfm (by decide)) (hR.h.keep hfx hfm (by decide)) (hR.t.keep hfx hfm (by decide)) (hR.k.keep hfx hfm (by decide))
    refine z_pop X d_lw_294 rfl ?_
    refine z_goto X d_lw_295 (tgt := 2192) (by decide) ?_
    exact hK wx' wm' hx' hl' hy' hR'
  · skip
    rw [List.append_assoc]
    refine cx_callP (rest := []) (As := [.int (xs (i + 1).toNatClampNeg)]) (μ := muF x [.int (xs (i + 1).toNatClampNeg)] [.int n]) X k_L_28 (ac_v_X10_end_1 l G) (by decide) hx (fun ad w0 he hag => pre_F (C := C_v_X10_end_1) (ts := [(0, 0, 80)]) (As := [.int (xs (i + 1).toNatClampNeg)]) (t0 := (0, 0, 80)) rfl rfl (Nat.le_of_ble_eq_true rfl) ⟨fun _ => vty_i (by omega) (by omega), trivial⟩ (fun _ => vty_i (by omega) (by omega)) (fun q hq => by rw [List.mem_singleton.mp hq]; show (xs (i + 1).toNatClampNeg).toInt ≤ n.toInt + 0; omega) ad w0 he ((hag 3 1 (by decide)).trans hn1)) rfl d_lw_280 ⟨by decide, by decide⟩ ⟨hc, hs⟩ rfl rfl (by decide) rfl (fun ad r wx' hz hx' hl' => ?_)
    rw [← List.append_assoc]
    have hfx := pz_fx hz
    obtain ⟨v, ν, rfl, v0, v1, e50, eA, eF, hF, hL⟩ := pz_a hz rfl rfl rfl
    refine z_pop X d_lw_283 rfl ?_
    refine z_aload_n X d_lw_284 rfl 2 rfl ?_
    refine z_aload_n X d_lw_285 rfl 0 rfl ?_
    refine z_iload X d_lw_286 4 rfl ?_
    refine z_iconst X d_lw_288 (v := 1) (by decide) ?_
    refine z_iadd X d_lw_289 ?_
    refine z_sld X hX hbl hbA (lw_in hi0 hi1 (k := 1) (by decide) (by decide)) d_lw_290 (v := xs (i + 1).toNatClampNeg) rfl ?_
    refine mx_callP (wa := wx') (rest := []) (As := [.int (xs (i + 1).toNatClampNeg)]) (μ := muF y [.int (xs (i + 1).toNatClampNeg)] [.int n]) X k_L_32 (ac_v_X11_end_1 l G) hy (fun ad he => pre_F (C := C_v_X11_end_1) (ts := [(0, 0, 80)]) (As := [.int (xs (i + 1).toNatClampNeg)]) (t0 := (0, 0, 80)) rfl rfl (Nat.le_of_ble_eq_true rfl) ⟨fun _ => vty_i (by omega) (by omega), trivial⟩ (fun _ => vty_i (by omega) (by omega)) (fun q hq => by rw [List.mem_singleton.mp hq]; show (xs (i + 1).toNatClampNeg).toInt ≤ n.toInt + 0; omega) ad wm he hn2) rfl d_lw_291 ⟨by decide, by decide⟩ ⟨hc, hs⟩ rfl rfl (Nat.le_of_ble_eq_true rfl) rfl (fun ad2 r wm' hz2 hy' => ?_)
    have hfm := pz_fx hz2
    obtain ⟨v2, ν2, rfl, w0, w1, f50, fA, fF, hF2, hL2⟩ := pz_a hz2 rfl rfl rfl
    have m0 : ν 100 = .int n := eF 100 (by decide) (by decide)
    have m2 : ν2 100 = .int n := fF 100 (by decide) (by decide)
    have v0 : 1 ≤ v.toInt := v0
    have v1 : v.toInt ≤ 1 := v1
    have w0 : 1 ≤ v2.toInt := w0
    have w1 : v2.toInt ≤ 1 := w1
    have ev : v.toInt = v2.toInt := by omega
    have f1 := hF 0 _ rfl
    have g1 := hF2 1 _ rfl
    obtain ⟨q1, en1, l1, u1⟩ := vty0 f1.1 rfl
    obtain ⟨q2, en2, l2, u2⟩ := vty0 g1.1 rfl
    have l1 : 0 ≤ q1.toInt := Int.le_trans (by decide) l1
    have u1 : q1.toInt ≤ 80 := u1
    have k0 : ν 1 = .int (xs (i + 1).toNatClampNeg) := eA 1 (by decide)
    have c0 : q1.toInt ≤ (xs (i + 1).toNatClampNeg).toInt + 0 := by
      have h := hL (200, 1, 0) (by decide)
      have h : vI (ν 200) ≤ vI (ν 1) + 0 := h
      rw [show ν 200 = .int q1 from en1, k0] at h
      exact h
    have d0 : (xs (i + 1).toNatClampNeg).toInt ≤ q1.toInt + 0 := by
      have h := hL (1, 200, 0) (by decide)
      have h : vI (ν 1) ≤ vI (ν 200) + 0 := h
      rw [show ν 200 = .int q1 from en1, k0] at h
      exact h
    have k1 : ν2 1 = .int (xs (i + 1).toNatClampNeg) := fA 1 (by decide)
    have c1 : q2.toInt ≤ (xs (i + 1).toNatClampNeg).toInt + 0 := by
      have h := hL2 (201, 1, 0) (by decide)
      have h : vI (ν2 201) ≤ vI (ν2 1) + 0 := h
      rw [show ν2 201 = .int q2 from en2, k1] at h
      exact h
    have d1 : (xs (i + 1).toNatClampNeg).toInt ≤ q2.toInt + 0 := by
      have h := hL2 (1, 201, 0) (by decide)
      have h : vI (ν2 1) ≤ vI (ν2 201) + 0 := h
      rw [show ν2 201 = .int q2 from en2, k1] at h
      exact h
    have e12 : q2 = q1 := Int32.toInt_inj.mp (by omega)
    have hR' : RelQ G wx' wm' := RelQ.of (hR.m.len hfx hfm (by decide) l1 u1 (by rw [← en1]; exact f1.2) (by rw [← e12, ← en2]; exact g1.2)) (hR.a.keep hfx hfm (by decide)) (hR.d.keep hfx hfm (by decide)) (hR.c.keep hfx hfm (by decide)) (hR.x.keep hfx hfm (by decide)) (hR.b.keep hfx hfm (by decide)) (hR.h.keep hfx hfm (by decide)) (hR.t.keep hfx hfm (by decide)) (hR.k.keep hfx hfm (by decide))
    refine z_pop X d_lw_294 rfl ?_
    refine z_goto X d_lw_295 (tgt := 2192) (by decide) ?_
    exact hK wx' wm' hx' hl' hy' hR'
  · skip
    rw [List.append_assoc]
    refine cx_callP (rest := []) (As := [.int (xs (i + 1).toNatClampNeg)]) (μ := muF x [.int (xs (i + 1).toNatClampNeg)] [.int n]) X k_L_28 (ac_v_X10_end_2 l G) (by decide) hx (fun ad w0 he hag => pre_F (C := C_v_X10_end_2) (ts := [(0, 0, 2147483647)]) (As := [.int (xs (i + 1).toNatClampNeg)]) (t0 := (0, 0, 80)) rfl rfl (Nat.le_of_ble_eq_true rfl) ⟨fun _ => vty_i (by omega) (i32_hi _), trivial⟩ (fun _ => vty_i (by omega) (by omega)) (fun q hq => by rw [List.mem_singleton.mp hq]; show n.toInt ≤ (xs (i + 1).toNatClampNeg).toInt + -1; omega) ad w0 he ((hag 3 1 (by decide)).trans hn1)) rfl d_lw_280 ⟨by decide, by decide⟩ ⟨hc, hs⟩ rfl rfl (by decide) rfl (fun ad r wx' hz hx' hl' => ?_)
    rw [← List.append_assoc]
    have hfx := pz_fx hz
    obtain ⟨v, ν, rfl, v0, v1, e50, eA, eF, hF, hL⟩ := pz_a hz rfl rfl rfl
    refine z_pop X d_lw_283 rfl ?_
    refine z_aload_n X d_lw_284 rfl 2 rfl ?_
    refine z_aload_n X d_lw_285 rfl 0 rfl ?_
    refine z_iload X d_lw_286 4 rfl ?_
    refine z_iconst X d_lw_288 (v := 1) (by decide) ?_
    refine z_iadd X d_lw_289 ?_
    refine z_sld X hX hbl hbA (lw_in hi0 hi1 (k := 1) (by decide) (by decide)) d_lw_290 (v := xs (i + 1).toNatClampNeg) rfl ?_
    refine mx_callP (wa := wx') (rest := []) (As := [.int (xs (i + 1).toNatClampNeg)]) (μ := muF y [.int (xs (i + 1).toNatClampNeg)] [.int n]) X k_L_32 (ac_v_X11_end_2 l G) hy (fun ad he => pre_F (C := C_v_X11_end_2) (ts := [(0, 0, 2147483647)]) (As := [.int (xs (i + 1).toNatClampNeg)]) (t0 := (0, 0, 80)) rfl rfl (Nat.le_of_ble_eq_true rfl) ⟨fun _ => vty_i (by omega) (i32_hi _), trivial⟩ (fun _ => vty_i (by omega) (by omega)) (fun q hq => by rw [List.mem_singleton.mp hq]; show n.toInt ≤ (xs (i + 1).toNatClampNeg).toInt + -1; omega) ad wm he hn2) rfl d_lw_291 ⟨by decide, by decide⟩ ⟨hc, hs⟩ rfl rfl (Nat.le_of_ble_eq_true rfl) rfl (fun ad2 r wm' hz2 hy' => ?_)
    have hfm := pz_fx hz2
    obtain ⟨v2, ν2, rfl, w0, w1, f50, fA, fF, hF2, hL2⟩ := pz_a hz2 rfl rfl rfl
    have m0 : ν 100 = .int n := eF 100 (by decide) (by decide)
    have m2 : ν2 100 = .int n := fF 100 (by decide) (by decide)
    have v0 : 0 ≤ v.toInt := v0
    have v1 : v.toInt ≤ 0 := v1
    have w0 : 0 ≤ v2.toInt := w0
    have w1 : v2.toInt ≤ 0 := w1
    have ev : v.toInt = v2.toInt := by omega
    have hR' : RelQ G wx' wm' := RelQ.of (hR.m.keep hfx hfm (by decide)) (hR.a.keep hfx hfm (by decide)) (hR.d.keep hfx hfm (by decide)) (hR.c.keep hfx hfm (by decide)) (hR.x.keep hfx hfm (by decide)) (hR.b.keep hfx hfm (by decide)) (hR.h.keep hfx hfm (by decide)) (hR.t.keep hfx hfm (by decide)) (hR.k.keep hfx hfm (by decide))
    refine z_pop X d_lw_294 rfl ?_
    refine z_goto X d_lw_295 (tgt := 2192) (by decide) ?_
    exact hK wx' wm' hx' hl' hy' hR'
theorem lc_2 (X : ZC p s m #[Value.ref b] meth c code 8 RL G (fun q : Nat => s.heap.size ≤ q) ret nm) (hX : va_X b L xs s s.heap) (hbl : b < s.heap.size) (hbA : ¬ s.heap.size ≤ b) (hi0 : 0 ≤ i.toInt) (hi1 : i.toInt + 10 ≤ (L : Int) ∧ L ≤ 5120) (hx : CWx G x wx) (hy : MWx G y wm) (hR : RelQ G wx wm) (hc : kc ≤ room_1.cells) (hs : ks ≤ room_1.slots) (hK : ∀ wx' wm', CWx G x wx' → wx'.length = wx.length → MWx G y wm' → RelQ G wx' wm' → Z p l e room_1 s m #[Value.ref b] below meth c 8 G (fun q : Nat => s.heap.size ≤ q) (lw_Z below #[Value.ref b] s) 2192 (lv5 b x y o i) [] (wx' ++ wm' ++ [(o, aJ G 1 f)]) kc ks) : Z p l e room_1 s m #[Value.ref b] below meth c 8 G (fun q : Nat => s.heap.size ≤ q) (lw_Z below #[Value.ref b] s) 298 (lv5 b x y o i) [] (wx ++ wm ++ [(o, aJ G 1 f)]) kc ks := by
  obtain ⟨n, h9, s9, c9, f9, g9, ⟨n0, n1⟩, rc9, e9, ⟨hn1, hn2⟩, ⟨a2, b2⟩, ⟨a3, b3⟩, ⟨a4, b4⟩, a5, b5⟩ := id hR.m
  refine z_aload_n X d_lw_298 rfl 1 rfl ?_
  obtain ⟨ha0, sa0, ca0, ⟨eh1, es1, ec1⟩, ⟨pq, pg, pa, pb, pe⟩, ⟨rq, rg, ra, rb, re⟩, ⟨fq, fg, fa, fb, fe⟩, ⟨oq, og, oa, ob1, oe⟩, ⟨wq, wg, wa1, wb1, we⟩⟩ := id hR.a
  obtain rfl := some_int (a2.symm.trans eh1)
  obtain rfl := some_int (a3.symm.trans es1)
  obtain rfl := some_int (a4.symm.trans ec1)
  obtain ⟨hd0, eh2, ⟨dq, dg, da, db, de⟩, -⟩ := id hR.d
  obtain ⟨hd1, eh3, ⟨xq, xg, xa, xb, xe⟩, ⟨yq, yg, ya, yb, ye⟩⟩ := id hR.x
  obtain rfl := some_int (a2.symm.trans eh3)
  obtain ⟨hd2, hq, hg, hr, x1, x2, x3, x4, -⟩ := id hR.h
  obtain rfl := arrinj (ra.symm.trans x4)
  rw [List.append_assoc]
  refine cx_callG (rm := { frames := 6, cells := 0, slots := 0, locals := 132 }) (m0 := C_t_X10_mill_0.2.2.2.2.1) (Ψ := (fun r w1 => MilE 3 1 5 0 12 0 18 0 n f9 h9 s9 c9 r w1 ∧ MilA G 5 0 12 0 18 0 6 9 13 14 19 f9 (if 60 < n then 60 else n) h9 s9 c9 pq rq fq oq wq w1 ∧ MilX G 5 0 7 8 f9 (if 60 < n then 60 else n) h9 s9 c9 xq yq w1)) (rest := []) (As := []) X k_L_33 (fun ad w0 hW hag => ac_mi3x l G hW ((fget_eq (hag 3 1 (by decide))).trans hn1) ((fget_eq (hag 5 0 (by decide))).trans a2) ((fget_eq (hag 12 0 (by decide))).trans a3) ((fget_eq (hag 18 0 (by decide))).trans a4) ((hag 4 0 (by decide)).trans a5) ((hag 6 0 (by decide)).trans pa) ((hag 9 0 (by decide)).trans ra) ((hag 13 0 (by decide)).trans fa) ((hag 14 0 (by decide)).trans oa) ((hag 19 0 (by decide)).trans wa1) ((hag 7 0 (by decide)).trans xa) ((hag 8 0 (by decide)).trans ya)) ⟨rfl, rfl⟩ (by decide) (fun r w1 wc hl h => ⟨h.1.app ⟨by omega, by omega, by omega, by omega⟩, h.2.1.app ⟨⟨by omega, by omega, by omega⟩, by omega, by omega, by omega, by omega, by omega⟩, h.2.2.app ⟨by omega, by omega, by omega⟩⟩) hx d_lw_299 ⟨by decide, by decide⟩ ⟨hc, hs⟩ rfl rfl (by decide) rfl (fun r wx' hz hx' hl' hfx => ?_)
  rw [← List.append_assoc]
  obtain ⟨v, rfl⟩ := hz.1.ret
  refine z_pop X d_lw_302 rfl ?_
  refine z_aload_n X d_lw_303 rfl 2 rfl ?_
  refine mx_callG (rm := { frames := 5, cells := 0, slots := 0, locals := 110 }) (m0 := C_mill1.2.2.2.2.1) (Ψ := (fun r w1 => MilE 0 19 0 3 0 10 0 16 n g9 h9 s9 c9 r w1 ∧ MilA G 0 3 0 10 0 16 2 5 8 9 13 g9 (if 60 < n then 60 else n) h9 s9 c9 pg rg fg og wg w1 ∧ MilX G 0 3 3 4 g9 (if 60 < n then 60 else n) h9 s9 c9 xg yg w1 ∧ MilD G 0 3 7 g9 (if 60 < n then 60 else n) h9 s9 c9 dg w1 ∧ MilD G 0 3 6 g9 (if 60 < n then 60 else n) h9 s9 c9 hg w1)) (wa := wx') (rest := []) (As := []) X k_L_37 (fun ad hW => ac_mi3m l G hW hn2 b2 b3 b4 b5 pb rb fb ob1 wb1 xb yb db x3) ⟨rfl, rfl⟩ hy d_lw_304 ⟨by decide, by decide⟩ ⟨hc, hs⟩ rfl rfl (Nat.le_of_ble_eq_true rfl) rfl (fun r wm' hz2 hy' hfm => ?_)
  obtain ⟨v2, rfl⟩ := hz2.1.ret
  obtain ⟨ev0, hM'⟩ := RelM.mil hfx hfm (by decide) e9 a5 b5 hz.1 hz2.1
  obtain ⟨u9, -, -, ⟨ux, -, -⟩, -, ur, -⟩ := id hz.2.1
  have hr0 : ∀ q : Nat → Int32, cget wx' 9 0 = some (.inr (cyI G, 16, .inl q)) → ∀ j : Nat, j < 16 → 0 ≤ (q j).toInt := fun q e j hj => cwx_room hx' e j hj
  have hA' : RelAr G wx' wm' := RelAr.mil hM' (lim60 n) e9 hz.2.1 hz2.2.1 ⟨pe, re, fe, oe, we⟩
  have hD' : RelD G wx' wm' := RelD.mil hM' hR.d hfx (by decide) a2 db hz2.2.2.2.1 (fun h2 e => hz.1.ge e)
  have hX' : RelXY G wx' wm' := RelXY.mil hM' (lim60 n) e9 hz.2.2 hz2.2.2.1 ⟨xe, ye⟩
  have hB' : RelB G wx' wm' := RelB.mil hR.b ⟨a2, a3, a4⟩ ⟨rc9.1.1, rc9.2.1.1, rc9.2.2.1⟩ hz.1 hz.2.1 hz.2.2 ⟨xa, ya, fa, oa, wa1⟩
  have hH' : RelH G wx' wm' := RelH.mil hM' hR.h hfx (by decide) a2 x3 ra hz2.2.2.2.2 ur hr0 (fun h2 e => hz.1.ge e)
  have hK' : RelKh G wx' wm' := RelKh.mil hR.k hfx hfm (by decide) a2 ux ra ur hr0 (hz.1.ge ux)
  have hR' : RelQ G wx' wm' := RelQ.of (hM') (hA') (hD') (hR.c.keep hfx hfm (by decide)) (hX') (hB') (hH') (hR.t.keep hfx hfm (by decide)) (hK')
  have ev : v.toInt = v2.toInt := congrArg Int32.toInt ev0
  refine z_pop X d_lw_307 rfl ?_
  refine z_goto X d_lw_308 (tgt := 2192) (by decide) ?_
  exact hK wx' wm' hx' hl' hy' hR'
theorem lc_3 (X : ZC p s m #[Value.ref b] meth c code 8 RL G (fun q : Nat => s.heap.size ≤ q) ret nm) (hX : va_X b L xs s s.heap) (hbl : b < s.heap.size) (hbA : ¬ s.heap.size ≤ b) (hi0 : 0 ≤ i.toInt) (hi1 : i.toInt + 10 ≤ (L : Int) ∧ L ≤ 5120) (hx : CWx G x wx) (hy : MWx G y wm) (hR : RelQ G wx wm) (hE : EXs (fun q : Nat => s.heap.size ≤ q) s s.heap) (hst : l.stackTraces = false) (hc : kc + 1 ≤ room_1.cells) (hs : ks + 6 ≤ room_1.slots) (hK : ∀ wx' wm' f', CWx G x wx' → wx'.length = wx.length → MWx G y wm' → RelQ G wx' wm' → Z p l e room_1 s m #[Value.ref b] below meth c 8 G (fun q : Nat => s.heap.size ≤ q) (lw_Z below #[Value.ref b] s) 2192 (lv5 b x y o i) [] (wx' ++ wm' ++ [(o, aJ G 1 f')]) (kc + 1) (ks + 6)) : Z p l e room_1 s m #[Value.ref b] below meth c 8 G (fun q : Nat => s.heap.size ≤ q) (lw_Z below #[Value.ref b] s) 311 (lv5 b x y o i) [] (wx ++ wm ++ [(o, aJ G 1 f)]) kc ks := by
  refine z_aload_n X d_lw_311 rfl 1 rfl ?_
  refine z_aload_n X d_lw_312 rfl 0 rfl ?_
  refine z_iload X d_lw_313 4 rfl ?_
  refine z_iconst X d_lw_315 (v := 1) (by decide) ?_
  refine z_iadd X d_lw_316 ?_
  refine z_sld X hX hbl hbA (lw_in hi0 hi1 (k := 1) (by decide) (by decide)) d_lw_317 (v := xs (i + 1).toNatClampNeg) rfl ?_
  refine z_aload_n X d_lw_318 rfl 0 rfl ?_
  refine z_iload X d_lw_319 4 rfl ?_
  refine z_iconst X d_lw_321 (v := 2) (by decide) ?_
  refine z_iadd X d_lw_322 ?_
  refine z_sld X hX hbl hbA (lw_in hi0 hi1 (k := 2) (by decide) (by decide)) d_lw_323 (v := xs (i + 2).toNatClampNeg) rfl ?_
  refine z_aload_n X d_lw_324 rfl 3 rfl ?_
  refine sx_callF (x := x) (oa := o) (rm := { frames := 7, cells := 1, slots := 6, locals := 104 }) (rest := []) (As := [.ref (x), .int (xs (i + 1).toNatClampNeg), .int (xs (i + 2).toNatClampNeg), .ref (o)]) X k_L_38 hE (fun ad w0 h1 h2 h3 => by rw [← h3]; exact cl_hole l hst G h1 h2 _ _ o f) hx d_lw_325 ⟨by decide, by decide⟩ ⟨hc, hs⟩ rfl rfl (by decide) rfl (fun v wx' f' hx' hl' hfx => ?_)
  refine z_istore X d_lw_328 (by decide) (lv' := [(5, .int (v)), (0, .ref (b)), (1, .ref (x)), (2, .ref (y)), (3, .ref (o)), (4, .int (i))]) rfl ?_
  refine z_aload_n X d_lw_330 rfl 3 rfl ?_
  refine z_aload_n X d_lw_331 rfl 1 rfl ?_
  refine z_iload X d_lw_332 5 rfl ?_
  refine z_iconst X d_lw_334 (v := 1) (by decide) ?_
  refine z_iadd X d_lw_335 ?_
  refine z_sld X hX hbl hbA (lw_in hi0 hi1 (k := 1) (by decide) (by decide)) d_lw_336 (v := xs (i + 1).toNatClampNeg) rfl ?_
  refine z_aload_n X d_lw_337 rfl 1 rfl ?_
  refine z_iload X d_lw_338 5 rfl ?_
  refine z_iconst X d_lw_340 (v := 2) (by decide) ?_
  refine z_iadd X d_lw_341 ?_
  refine z_sld X hX hbl hbA (lw_in hi0 hi1 (k := 2) (by decide) (by decide)) d_lw_342 (v := xs (i + 2).toNatClampNeg) rfl ?_
  refine mx_callF (k := 0) (wa := wx') (rest := []) (As := [.int (xs (i + 1).toNatClampNeg), .int (xs (i + 2).toNatClampNeg)]) (μ := (fun k => ((Value.ref y :: [.int (xs (i + 1).toNatClampNeg), .int (xs (i + 2).toNatClampNeg)])[k]?).getD .null)) X k_L_43 (ac_X11_hole_0 l G) (by decide) (by decide) hy (fun ad w0 he => pre_mu (C := C_X11_hole_0) (ts := [tI0, tI0]) (As := [.int (xs (i + 1).toNatClampNeg), .int (xs (i + 2).toNatClampNeg)]) rfl rfl rfl rfl ⟨fun _ => vty_i0 _, fun _ => vty_i0 _, trivial⟩ ad w0 he) rfl d_lw_343 ⟨by decide, by decide⟩ ⟨hc, hs⟩ rfl rfl (Nat.le_of_ble_eq_true rfl) rfl (fun r wm' hr hy' hfm => ?_)
  rcases hr with ⟨h, -⟩ | ⟨-, v2, rfl⟩ | ⟨h, -⟩
  all_goals first | (exact absurd h (by decide)) | skip
  refine z_istore X d_lw_346 (by decide) (lv' := [(6, .int (v2)), (5, .int (v)), (0, .ref (b)), (1, .ref (x)), (2, .ref (y)), (3, .ref (o)), (4, .int (i))]) rfl ?_
  refine z_goto X d_lw_348 (tgt := 2192) (by decide) ?_
  exact Z.mono (fun q hq => by simp only [List.mem_cons, List.not_mem_nil, or_false] at hq ⊢; rcases hq with h | h | h | h | h <;> simp [h]) (hK wx' wm' f' hx' hl' hy' (RelQ.of (hR.m.keep hfx hfm (by decide)) (hR.a.keep hfx hfm (by decide)) (hR.d.keep hfx hfm (by decide)) (hR.c.keep hfx hfm (by decide)) (hR.x.keep hfx hfm (by decide)) (hR.b.keep hfx hfm (by decide)) (hR.h.keep hfx hfm (by decide)) (hR.t.keep hfx hfm (by decide)) (hR.k.keep hfx hfm (by decide))))
theorem lc_4 (X : ZC p s m #[Value.ref b] meth c code 8 RL G (fun q : Nat => s.heap.size ≤ q) ret nm) (hX : va_X b L xs s s.heap) (hbl : b < s.heap.size) (hbA : ¬ s.heap.size ≤ b) (hi0 : 0 ≤ i.toInt) (hi1 : i.toInt + 10 ≤ (L : Int) ∧ L ≤ 5120) (hx : CWx G x wx) (hy : MWx G y wm) (hR : RelQ G wx wm) (hc : kc ≤ room_1.cells) (hs : ks ≤ room_1.slots) (hK : ∀ wx' wm', CWx G x wx' → wx'.length = wx.length → MWx G y wm' → RelQ G wx' wm' → Z p l e room_1 s m #[Value.ref b] below meth c 8 G (fun q : Nat => s.heap.size ≤ q) (lw_Z below #[Value.ref b] s) 2192 (lv5 b x y o i) [] (wx' ++ wm' ++ [(o, aJ G 1 f)]) kc ks) : Z p l e room_1 s m #[Value.ref b] below meth c 8 G (fun q : Nat => s.heap.size ≤ q) (lw_Z below #[Value.ref b] s) 351 (lv5 b x y o i) [] (wx ++ wm ++ [(o, aJ G 1 f)]) kc ks := by
  obtain ⟨n, h9, s9, c9, f9, g9, ⟨n0, n1⟩, rc9, e9, ⟨hn1, hn2⟩, ⟨a2, b2⟩, ⟨a3, b3⟩, ⟨a4, b4⟩, a5, b5⟩ := id hR.m
  refine z_aload_n X d_lw_351 rfl 1 rfl ?_
  refine z_aload_n X d_lw_352 rfl 0 rfl ?_
  refine z_iload X d_lw_353 4 rfl ?_
  refine z_iconst X d_lw_355 (v := 1) (by decide) ?_
  refine z_iadd X d_lw_356 ?_
  refine z_sld X hX hbl hbA (lw_in hi0 hi1 (k := 1) (by decide) (by decide)) d_lw_357 (v := xs (i + 1).toNatClampNeg) rfl ?_
  refine z_aload_n X d_lw_358 rfl 0 rfl ?_
  refine z_iload X d_lw_359 4 rfl ?_
  refine z_iconst X d_lw_361 (v := 2) (by decide) ?_
  refine z_iadd X d_lw_362 ?_
  refine z_sld X hX hbl hbA (lw_in hi0 hi1 (k := 2) (by decide) (by decide)) d_lw_363 (v := xs (i + 2).toNatClampNeg) rfl ?_
  obtain ⟨hh9, hq, hg, hr, x1, x2, x3, x4, x5, x6, x7⟩ := id hR.h
  obtain rfl := some_int (a2.symm.trans x1)
  obtain ⟨ha0, sa0, ca0, ⟨eh1, es1, ec1⟩, ⟨pq, pg, pa, pb, pe⟩, ⟨rq, rg, ra, rb, re⟩, ⟨fq, fg, fa, fb, fe⟩, ⟨oq, og, oa, ob1, oe⟩, ⟨wq, wg, wa1, wb1, we⟩⟩ := id hR.a
  obtain rfl := some_int (a2.symm.trans eh1)
  obtain rfl := some_int (a3.symm.trans es1)
  obtain rfl := some_int (a4.symm.trans ec1)
  obtain rfl := arrinj (ra.symm.trans x4)
  obtain ⟨l1, l2, l3, l4⟩ := lead_E (h := h9) (q := hq) (g := hg) (r := rq) (rm := rg) (a := xs (i + 1).toNatClampNeg) (v := xs (i + 2).toNatClampNeg) rc9.1.2 x5 x6 x7 re
  rw [List.append_assoc]
  refine cx_callG (rm := { frames := 1, cells := 0, slots := 0, locals := 21 }) (m0 := C_X10_lead_0.2.2.2.2.1) (Ψ := (fun r w1 => r = some (.int (mLead h9.toInt rq hq (xs (i + 1).toNatClampNeg) (xs (i + 2).toNatClampNeg)).1) ∧ CQ G w1 10 16 (mLead h9.toInt rq hq (xs (i + 1).toNatClampNeg) (xs (i + 2).toNatClampNeg)).2)) (rest := []) (As := [.int (xs (i + 1).toNatClampNeg), .int (xs (i + 2).toNatClampNeg)]) X k_L_44 (fun ad w0 hW hag => ac_ldx l G hW ((fget_eq (hag 5 0 (by decide))).trans a2) ((hag 9 0 (by decide)).trans ra) ((hag 10 0 (by decide)).trans x2)) ⟨rfl, rfl⟩ (by decide) (fun r w1 wc hl h => ⟨h.1, h.2.app (by omega)⟩) hx d_lw_364 ⟨by decide, by decide⟩ ⟨hc, hs⟩ rfl rfl (by decide) rfl (fun r wx' hz hx' hl' hfx => ?_)
  rw [← List.append_assoc]
  obtain ⟨v, rfl⟩ := (⟨_, hz.1⟩ : ∃ v : Int32, r = some (Value.int v))
  refine z_pop X d_lw_367 rfl ?_
  refine z_aload_n X d_lw_368 rfl 2 rfl ?_
  refine z_aload_n X d_lw_369 rfl 0 rfl ?_
  refine z_iload X d_lw_370 4 rfl ?_
  refine z_iconst X d_lw_372 (v := 1) (by decide) ?_
  refine z_iadd X d_lw_373 ?_
  refine z_sld X hX hbl hbA (lw_in hi0 hi1 (k := 1) (by decide) (by decide)) d_lw_374 (v := xs (i + 1).toNatClampNeg) rfl ?_
  refine z_aload_n X d_lw_375 rfl 0 rfl ?_
  refine z_iload X d_lw_376 4 rfl ?_
  refine z_iconst X d_lw_378 (v := 2) (by decide) ?_
  refine z_iadd X d_lw_379 ?_
  refine z_sld X hX hbl hbA (lw_in hi0 hi1 (k := 2) (by decide) (by decide)) d_lw_380 (v := xs (i + 2).toNatClampNeg) rfl ?_
  refine mx_callG (rm := { frames := 2, cells := 0, slots := 0, locals := 46 }) (m0 := C_X11_lead_0.2.2.2.2.1) (Ψ := (fun r w1 => r = some (.int (mLead h9.toInt rg hg (xs (i + 1).toNatClampNeg) (xs (i + 2).toNatClampNeg)).1) ∧ CQ G w1 6 16 (mLead h9.toInt rg hg (xs (i + 1).toNatClampNeg) (xs (i + 2).toNatClampNeg)).2)) (wa := wx') (rest := []) (As := [.int (xs (i + 1).toNatClampNeg), .int (xs (i + 2).toNatClampNeg)]) X k_L_47 (fun ad hW => ac_ldm l G hW b2 rb x3) ⟨rfl, rfl⟩ hy d_lw_381 ⟨by decide, by decide⟩ ⟨hc, hs⟩ rfl rfl (Nat.le_of_ble_eq_true rfl) rfl (fun r wm' hz2 hy' hfm => ?_)
  obtain ⟨v2, rfl⟩ := (⟨_, hz2.1⟩ : ∃ v : Int32, r = some (Value.int v))
  obtain ⟨ev0, hM'⟩ := (⟨(some_int hz.1).trans (l1.trans (some_int hz2.1).symm), RelH.set hR.h hfx (by decide) a2 ra hz.2 hz2.2 l2 l3 l4⟩ : v = v2 ∧ RelH G wx' wm')
  have hR' : RelQ G wx' wm' := RelQ.of (hR.m.keep hfx hfm (by decide)) (hR.a.keep hfx hfm (by decide)) (hR.d.keep hfx hfm (by decide)) (hR.c.keep hfx hfm (by decide)) (hR.x.keep hfx hfm (by decide)) (hR.b.keep hfx hfm (by decide)) (hM') (hR.t.keep hfx hfm (by decide)) (hR.k.keep hfx hfm (by decide))
  have ev : v.toInt = v2.toInt := congrArg Int32.toInt ev0
  refine z_pop X d_lw_384 rfl ?_
  refine z_goto X d_lw_385 (tgt := 2192) (by decide) ?_
  exact hK wx' wm' hx' hl' hy' hR'
theorem lc_5 (X : ZC p s m #[Value.ref b] meth c code 8 RL G (fun q : Nat => s.heap.size ≤ q) ret nm) (hX : va_X b L xs s s.heap) (hbl : b < s.heap.size) (hbA : ¬ s.heap.size ≤ b) (hi0 : 0 ≤ i.toInt) (hi1 : i.toInt + 10 ≤ (L : Int) ∧ L ≤ 5120) (hx : CWx G x wx) (hy : MWx G y wm) (hR : RelQ G wx wm) (hc : kc ≤ room_1.cells) (hs : ks ≤ room_1.slots) (hK : ∀ wx' wm', CWx G x wx' → wx'.length = wx.length → MWx G y wm' → RelQ G wx' wm' → Z p l e room_1 s m #[Value.ref b] below meth c 8 G (fun q : Nat => s.heap.size ≤ q) (lw_Z below #[Value.ref b] s) 2192 (lv5 b x y o i) [] (wx' ++ wm' ++ [(o, aJ G 1 f)]) kc ks) : Z p l e room_1 s m #[Value.ref b] below meth c 8 G (fun q : Nat => s.heap.size ≤ q) (lw_Z below #[Value.ref b] s) 388 (lv5 b x y o i) [] (wx ++ wm ++ [(o, aJ G 1 f)]) kc ks := by
  obtain ⟨n, h9, s9, c9, f9, g9, ⟨n0, n1⟩, rc9, e9, ⟨hn1, hn2⟩, ⟨a2, b2⟩, ⟨a3, b3⟩, ⟨a4, b4⟩, a5, b5⟩ := id hR.m
  refine z_aload_n X d_lw_388 rfl 1 rfl ?_
  refine z_aload_n X d_lw_389 rfl 0 rfl ?_
  refine z_iload X d_lw_390 4 rfl ?_
  refine z_iconst X d_lw_392 (v := 1) (by decide) ?_
  refine z_iadd X d_lw_393 ?_
  refine z_sld X hX hbl hbA (lw_in hi0 hi1 (k := 1) (by decide) (by decide)) d_lw_394 (v := xs (i + 1).toNatClampNeg) rfl ?_
  refine z_aload_n X d_lw_395 rfl 0 rfl ?_
  refine z_iload X d_lw_396 4 rfl ?_
  refine z_iconst X d_lw_398 (v := 2) (by decide) ?_
  refine z_iadd X d_lw_399 ?_
  refine z_sld X hX hbl hbA (lw_in hi0 hi1 (k := 2) (by decide) (by decide)) d_lw_400 (v := xs (i + 2).toNatClampNeg) rfl ?_
  obtain ⟨hd0, eh2, ⟨dq, dg, da, db, de⟩, dq2, da2, dz⟩ := id hR.d
  obtain rfl := some_int (a2.symm.trans eh2)
  rw [List.append_assoc]
  refine cx_callG (rm := { frames := 1, cells := 0, slots := 0, locals := 21 }) (m0 := C_X10_deep_0.2.2.2.2.1) (Ψ := (fun r w1 => r = some (.int (mDeep h9.toInt dq (xs (i + 1).toNatClampNeg) (xs (i + 2).toNatClampNeg)).1) ∧ CQ G w1 11 16 (mDeep h9.toInt dq (xs (i + 1).toNatClampNeg) (xs (i + 2).toNatClampNeg)).2)) (rest := []) (As := [.int (xs (i + 1).toNatClampNeg), .int (xs (i + 2).toNatClampNeg)]) X k_L_48 (fun ad w0 hW hag => ac_dpx l G hW ((fget_eq (hag 5 0 (by decide))).trans a2) ((hag 11 0 (by decide)).trans da)) ⟨rfl, rfl⟩ (by decide) (fun r w1 wc hl h => ⟨h.1, h.2.app (by omega)⟩) hx d_lw_401 ⟨by decide, by decide⟩ ⟨hc, hs⟩ rfl rfl (by decide) rfl (fun r wx' hz hx' hl' hfx => ?_)
  rw [← List.append_assoc]
  obtain ⟨v, rfl⟩ := (⟨_, hz.1⟩ : ∃ v : Int32, r = some (Value.int v))
  refine z_pop X d_lw_404 rfl ?_
  refine z_aload_n X d_lw_405 rfl 2 rfl ?_
  refine z_aload_n X d_lw_406 rfl 0 rfl ?_
  refine z_iload X d_lw_407 4 rfl ?_
  refine z_iconst X d_lw_409 (v := 1) (by decide) ?_
  refine z_iadd X d_lw_410 ?_
  refine z_sld X hX hbl hbA (lw_in hi0 hi1 (k := 1) (by decide) (by decide)) d_lw_411 (v := xs (i + 1).toNatClampNeg) rfl ?_
  refine z_aload_n X d_lw_412 rfl 0 rfl ?_
  refine z_iload X d_lw_413 4 rfl ?_
  refine z_iconst X d_lw_415 (v := 2) (by decide) ?_
  refine z_iadd X d_lw_416 ?_
  refine z_sld X hX hbl hbA (lw_in hi0 hi1 (k := 2) (by decide) (by decide)) d_lw_417 (v := xs (i + 2).toNatClampNeg) rfl ?_
  refine mx_callG (rm := { frames := 2, cells := 0, slots := 0, locals := 46 }) (m0 := C_X11_deep_0.2.2.2.2.1) (Ψ := (fun r w1 => r = some (.int (mDeep h9.toInt dg (xs (i + 1).toNatClampNeg) (xs (i + 2).toNatClampNeg)).1) ∧ CQ G w1 7 16 (mDeep h9.toInt dg (xs (i + 1).toNatClampNeg) (xs (i + 2).toNatClampNeg)).2)) (wa := wx') (rest := []) (As := [.int (xs (i + 1).toNatClampNeg), .int (xs (i + 2).toNatClampNeg)]) X k_L_51 (fun ad hW => ac_dpm l G hW b2 db) ⟨rfl, rfl⟩ hy d_lw_418 ⟨by decide, by decide⟩ ⟨hc, hs⟩ rfl rfl (Nat.le_of_ble_eq_true rfl) rfl (fun r wm' hz2 hy' hfm => ?_)
  obtain ⟨v2, rfl⟩ := (⟨_, hz2.1⟩ : ∃ v : Int32, r = some (Value.int v))
  obtain ⟨ev0, hM'⟩ := RelD.deep hR.d hfx hfm (by decide) rc9.1.2 a2 da db hz hz2
  have hR' : RelQ G wx' wm' := RelQ.of (hR.m.keep hfx hfm (by decide)) (hR.a.keep hfx hfm (by decide)) (hM') (hR.c.keep hfx hfm (by decide)) (hR.x.keep hfx hfm (by decide)) (hR.b.keep hfx hfm (by decide)) (hR.h.keep hfx hfm (by decide)) (hR.t.keep hfx hfm (by decide)) (hR.k.keep hfx hfm (by decide))
  have ev : v.toInt = v2.toInt := congrArg Int32.toInt ev0
  refine z_pop X d_lw_421 rfl ?_
  refine z_goto X d_lw_422 (tgt := 2192) (by decide) ?_
  exact hK wx' wm' hx' hl' hy' hR'
theorem lc_6 (X : ZC p s m #[Value.ref b] meth c code 8 RL G (fun q : Nat => s.heap.size ≤ q) ret nm) (hX : va_X b L xs s s.heap) (hbl : b < s.heap.size) (hbA : ¬ s.heap.size ≤ b) (hi0 : 0 ≤ i.toInt) (hi1 : i.toInt + 10 ≤ (L : Int) ∧ L ≤ 5120) (hx : CWx G x wx) (hy : MWx G y wm) (hR : RelQ G wx wm) (hc : kc ≤ room_1.cells) (hs : ks ≤ room_1.slots) (hK : ∀ wx' wm', CWx G x wx' → wx'.length = wx.length → MWx G y wm' → RelQ G wx' wm' → Z p l e room_1 s m #[Value.ref b] below meth c 8 G (fun q : Nat => s.heap.size ≤ q) (lw_Z below #[Value.ref b] s) 2192 (lv5 b x y o i) [] (wx' ++ wm' ++ [(o, aJ G 1 f)]) kc ks) : Z p l e room_1 s m #[Value.ref b] below meth c 8 G (fun q : Nat => s.heap.size ≤ q) (lw_Z below #[Value.ref b] s) 425 (lv5 b x y o i) [] (wx ++ wm ++ [(o, aJ G 1 f)]) kc ks := by
  obtain ⟨n, h9, s9, c9, f9, g9, ⟨n0, n1⟩, rc9, e9, ⟨hn1, hn2⟩, ⟨a2, b2⟩, ⟨a3, b3⟩, ⟨a4, b4⟩, a5, b5⟩ := id hR.m
  refine z_aload_n X d_lw_425 rfl 1 rfl ?_
  refine z_aload_n X d_lw_426 rfl 0 rfl ?_
  refine z_iload X d_lw_427 4 rfl ?_
  refine z_iconst X d_lw_429 (v := 1) (by decide) ?_
  refine z_iadd X d_lw_430 ?_
  refine z_sld X hX hbl hbA (lw_in hi0 hi1 (k := 1) (by decide) (by decide)) d_lw_431 (v := xs (i + 1).toNatClampNeg) rfl ?_
  refine z_aload_n X d_lw_432 rfl 0 rfl ?_
  refine z_iload X d_lw_433 4 rfl ?_
  refine z_iconst X d_lw_435 (v := 2) (by decide) ?_
  refine z_iadd X d_lw_436 ?_
  refine z_sld X hX hbl hbA (lw_in hi0 hi1 (k := 2) (by decide) (by decide)) d_lw_437 (v := xs (i + 2).toNatClampNeg) rfl ?_
  refine z_aload_n X d_lw_438 rfl 0 rfl ?_
  refine z_iload X d_lw_439 4 rfl ?_
  refine z_iconst X d_lw_441 (v := 3) (by decide) ?_
  refine z_iadd X d_lw_442 ?_
  refine z_sld X hX hbl hbA (lw_in hi0 hi1 (k := 3) (by decide) (by decide)) d_lw_443 (v := xs (i + 3).toNatClampNeg) rfl ?_
  refine z_aload_n X d_lw_444 rfl 0 rfl ?_
  refine z_iload X d_lw_445 4 rfl ?_
  refine z_iconst X d_lw_447 (v := 4) (by decide) ?_
  refine z_iadd X d_lw_448 ?_
  refine z_sld X hX hbl hbA (lw_in hi0 hi1 (k := 4) (by decide) (by decide)) d_lw_449 (v := xs (i + 4).toNatClampNeg) rfl ?_
  obtain ⟨hh9, hq, hg, hr, x1, x2, x3, x4, x5, x6, x7⟩ := id hR.h
  obtain rfl := some_int (a2.symm.trans x1)
  obtain ⟨ha0, sa0, ca0, ⟨eh1, es1, ec1⟩, ⟨pq, pg, pa, pb, pe⟩, ⟨rq, rg, ra, rb, re⟩, ⟨fq, fg, fa, fb, fe⟩, ⟨oq, og, oa, ob1, oe⟩, ⟨wq, wg, wa1, wb1, we⟩⟩ := id hR.a
  obtain rfl := some_int (a2.symm.trans eh1)
  obtain rfl := some_int (a3.symm.trans es1)
  obtain rfl := some_int (a4.symm.trans ec1)
  obtain rfl := arrinj (ra.symm.trans x4)
  obtain ⟨l2, l3, l4⟩ := sheet_E (h := h9.toInt) (k := xs (i + 1).toNatClampNeg) (n := xs (i + 2).toNatClampNeg) (f := xs (i + 3).toNatClampNeg) (st := xs (i + 4).toNatClampNeg) (r := rq) (rm := rg) (q := hq) (g := hg) (cwx_room hx ra) re x5 x6 x7
  rw [List.append_assoc]
  refine cx_callG (rm := { frames := 1, cells := 0, slots := 0, locals := 22 }) (m0 := C_X10_sheet_0.2.2.2.2.1) (Ψ := (fun r w1 => r = some (.int (mSx h9.toInt (xs (i + 1).toNatClampNeg) (xs (i + 2).toNatClampNeg) (xs (i + 3).toNatClampNeg) (xs (i + 4).toNatClampNeg) rq)) ∧ CQ G w1 10 16 (nSx h9.toInt (xs (i + 1).toNatClampNeg) (xs (i + 2).toNatClampNeg) (xs (i + 3).toNatClampNeg) (xs (i + 4).toNatClampNeg) rq hq))) (rest := []) (As := [.int (xs (i + 1).toNatClampNeg), .int (xs (i + 2).toNatClampNeg), .int (xs (i + 3).toNatClampNeg), .int (xs (i + 4).toNatClampNeg)]) X k_L_52 (fun ad w0 hW hag => ac_shx l G hW ((fget_eq (hag 5 0 (by decide))).trans a2) ((hag 9 0 (by decide)).trans ra) ((hag 10 0 (by decide)).trans x2)) ⟨rfl, rfl⟩ (by decide) (fun r w1 wc hl h => ⟨h.1, h.2.app (by omega)⟩) hx d_lw_450 ⟨by decide, by decide⟩ ⟨hc, hs⟩ rfl rfl (by decide) rfl (fun r wx' hz hx' hl' hfx => ?_)
  rw [← List.append_assoc]
  obtain ⟨v, rfl⟩ := (⟨_, hz.1⟩ : ∃ v : Int32, r = some (Value.int v))
  refine z_pop X d_lw_453 rfl ?_
  refine z_aload_n X d_lw_454 rfl 2 rfl ?_
  refine z_aload_n X d_lw_455 rfl 0 rfl ?_
  refine z_iload X d_lw_456 4 rfl ?_
  refine z_iconst X d_lw_458 (v := 1) (by decide) ?_
  refine z_iadd X d_lw_459 ?_
  refine z_sld X hX hbl hbA (lw_in hi0 hi1 (k := 1) (by decide) (by decide)) d_lw_460 (v := xs (i + 1).toNatClampNeg) rfl ?_
  refine z_aload_n X d_lw_461 rfl 0 rfl ?_
  refine z_iload X d_lw_462 4 rfl ?_
  refine z_iconst X d_lw_464 (v := 2) (by decide) ?_
  refine z_iadd X d_lw_465 ?_
  refine z_sld X hX hbl hbA (lw_in hi0 hi1 (k := 2) (by decide) (by decide)) d_lw_466 (v := xs (i + 2).toNatClampNeg) rfl ?_
  refine z_aload_n X d_lw_467 rfl 0 rfl ?_
  refine z_iload X d_lw_468 4 rfl ?_
  refine z_iconst X d_lw_470 (v := 3) (by decide) ?_
  refine z_iadd X d_lw_471 ?_
  refine z_sld X hX hbl hbA (lw_in hi0 hi1 (k := 3) (by decide) (by decide)) d_lw_472 (v := xs (i + 3).toNatClampNeg) rfl ?_
  refine z_aload_n X d_lw_473 rfl 0 rfl ?_
  refine z_iload X d_lw_474 4 rfl ?_
  refine z_iconst X d_lw_476 (v := 4) (by decide) ?_
  refine z_iadd X d_lw_477 ?_
  refine z_sld X hX hbl hbA (lw_in hi0 hi1 (k := 4) (by decide) (by decide)) d_lw_478 (v := xs (i + 4).toNatClampNeg) rfl ?_
  refine mx_callG (rm := { frames := 1, cells := 0, slots := 0, locals := 25 }) (m0 := C_X11_sheet_0.2.2.2.2.1) (Ψ := (fun r w1 => r = some (.int (mSm h9.toInt (xs (i + 1).toNatClampNeg) (xs (i + 2).toNatClampNeg) (xs (i + 3).toNatClampNeg) (xs (i + 4).toNatClampNeg) rg)) ∧ CQ G w1 6 16 (nSm h9.toInt (xs (i + 1).toNatClampNeg) (xs (i + 2).toNatClampNeg) (xs (i + 3).toNatClampNeg) (xs (i + 4).toNatClampNeg) rg hg))) (wa := wx') (rest := []) (As := [.int (xs (i + 1).toNatClampNeg), .int (xs (i + 2).toNatClampNeg), .int (xs (i + 3).toNatClampNeg), .int (xs (i + 4).toNatClampNeg)]) X k_L_56 (fun ad hW => ac_shm l G hW b2 rb x3) ⟨rfl, rfl⟩ hy d_lw_479 ⟨by decide, by decide⟩ ⟨hc, hs⟩ rfl rfl (Nat.le_of_ble_eq_true rfl) rfl (fun r wm' hz2 hy' hfm => ?_)
  obtain ⟨v2, rfl⟩ := (⟨_, hz2.1⟩ : ∃ v : Int32, r = some (Value.int v))
  obtain ⟨ev0, hM'⟩ := (⟨(some_int hz.1).trans ((sh_same rc9.1.2 re (cwx_room hx ra)).trans (some_int hz2.1).symm), RelH.set hR.h hfx (by decide) a2 ra hz.2 hz2.2 l2 l3 l4⟩ : v = v2 ∧ RelH G wx' wm')
  have hR' : RelQ G wx' wm' := RelQ.of (hR.m.keep hfx hfm (by decide)) (hR.a.keep hfx hfm (by decide)) (hR.d.keep hfx hfm (by decide)) (hR.c.keep hfx hfm (by decide)) (hR.x.keep hfx hfm (by decide)) (hR.b.keep hfx hfm (by decide)) (hM') (hR.t.keep hfx hfm (by decide)) (hR.k.keep hfx hfm (by decide))
  have ev : v.toInt = v2.toInt := congrArg Int32.toInt ev0
  refine z_pop X d_lw_482 rfl ?_
  refine z_goto X d_lw_483 (tgt := 2192) (by decide) ?_
  exact hK wx' wm' hx' hl' hy' hR'
theorem lc_7 (X : ZC p s m #[Value.ref b] meth c code 8 RL G (fun q : Nat => s.heap.size ≤ q) ret nm) (hX : va_X b L xs s s.heap) (hbl : b < s.heap.size) (hbA : ¬ s.heap.size ≤ b) (hi0 : 0 ≤ i.toInt) (hi1 : i.toInt + 10 ≤ (L : Int) ∧ L ≤ 5120) (hx : CWx G x wx) (hy : MWx G y wm) (hR : RelQ G wx wm) (hc : kc ≤ room_1.cells) (hs : ks ≤ room_1.slots) (hK : ∀ wx' wm', CWx G x wx' → wx'.length = wx.length → MWx G y wm' → RelQ G wx' wm' → Z p l e room_1 s m #[Value.ref b] below meth c 8 G (fun q : Nat => s.heap.size ≤ q) (lw_Z below #[Value.ref b] s) 2192 (lv5 b x y o i) [] (wx' ++ wm' ++ [(o, aJ G 1 f)]) kc ks) : Z p l e room_1 s m #[Value.ref b] below meth c 8 G (fun q : Nat => s.heap.size ≤ q) (lw_Z below #[Value.ref b] s) 486 (lv5 b x y o i) [] (wx ++ wm ++ [(o, aJ G 1 f)]) kc ks := by
  obtain ⟨f9, g9, hf9, hg9, hfg⟩ := id hR.c
  refine z_aload_n X d_lw_486 rfl 1 rfl ?_
  refine z_aload_n X d_lw_487 rfl 0 rfl ?_
  refine z_iload X d_lw_488 4 rfl ?_
  refine z_iconst X d_lw_490 (v := 1) (by decide) ?_
  refine z_iadd X d_lw_491 ?_
  refine z_sld X hX hbl hbA (lw_in hi0 hi1 (k := 1) (by decide) (by decide)) d_lw_492 (v := xs (i + 1).toNatClampNeg) rfl ?_
  refine z_aload_n X d_lw_493 rfl 0 rfl ?_
  refine z_iload X d_lw_494 4 rfl ?_
  refine z_iconst X d_lw_496 (v := 2) (by decide) ?_
  refine z_iadd X d_lw_497 ?_
  refine z_sld X hX hbl hbA (lw_in hi0 hi1 (k := 2) (by decide) (by decide)) d_lw_498 (v := xs (i + 2).toNatClampNeg) rfl ?_
  refine z_aload_n X d_lw_499 rfl 0 rfl ?_
  refine z_iload X d_lw_500 4 rfl ?_
  refine z_iconst X d_lw_502 (v := 3) (by decide) ?_
  refine z_iadd X d_lw_503 ?_
  refine z_sld X hX hbl hbA (lw_in hi0 hi1 (k := 3) (by decide) (by decide)) d_lw_504 (v := xs (i + 3).toNatClampNeg) rfl ?_
  rcases (by omega : (xs (i + 1).toNatClampNeg).toInt ≤ -1 ∨ 2 ≤ (xs (i + 1).toNatClampNeg).toInt ∨ (0 ≤ (xs (i + 1).toNatClampNeg).toInt ∧ (xs (i + 1).toNatClampNeg).toInt ≤ 1 ∧ ((xs (i + 2).toNatClampNeg).toInt ≤ -1 ∨ 2 ≤ (xs (i + 2).toNatClampNeg).toInt ∨ (0 ≤ (xs (i + 2).toNatClampNeg).toInt ∧ (xs (i + 2).toNatClampNeg).toInt ≤ 1 ∧ ((xs (i + 3).toNatClampNeg).toInt ≤ -10 ∨ 10 ≤ (xs (i + 3).toNatClampNeg).toInt ∨ (-9 ≤ (xs (i + 3).toNatClampNeg).toInt ∧ (xs (i + 3).toNatClampNeg).toInt ≤ 9)))))) with l0 | g0 | ⟨a0, b0, (l1 | g1 | ⟨a1, b1, (l2 | g2 | ⟨a2, b2⟩)⟩)⟩
  · skip
    rw [List.append_assoc]
    refine cx_callP (rest := []) (As := [.int (xs (i + 1).toNatClampNeg), .int (xs (i + 2).toNatClampNeg), .int (xs (i + 3).toNatClampNeg)]) (μ := (fun k => ((Value.ref x :: [.int (xs (i + 1).toNatClampNeg), .int (xs (i + 2).toNatClampNeg), .int (xs (i + 3).toNatClampNeg)])[k]?).getD .null)) X k_L_57 (ac_x_X10_cross_1 l G) (by decide) hx (fun ad w0 he _ => pre_mu (C := C_x_X10_cross_1) (ts := [(0, -2147483648, -1), tI0, tI0]) (As := [.int (xs (i + 1).toNatClampNeg), .int (xs (i + 2).toNatClampNeg), .int (xs (i + 3).toNatClampNeg)]) rfl rfl rfl rfl ⟨fun _ => vty_i (i32_lo _) (by omega), fun _ => vty_i0 _, fun _ => vty_i0 _, trivial⟩ ad w0 he) rfl d_lw_505 ⟨by decide, by decide⟩ ⟨hc, hs⟩ rfl rfl (by decide) rfl (fun ad r wx' hz hx' hl' => ?_)
    rw [← List.append_assoc]
    have hfx := pz_fx hz
    obtain ⟨v, -, rfl, v0, v1, -⟩ := pz_a hz rfl rfl rfl
    refine z_pop X d_lw_508 rfl ?_
    refine z_aload_n X d_lw_509 rfl 2 rfl ?_
    refine z_aload_n X d_lw_510 rfl 0 rfl ?_
    refine z_iload X d_lw_511 4 rfl ?_
    refine z_iconst X d_lw_513 (v := 1) (by decide) ?_
    refine z_iadd X d_lw_514 ?_
    refine z_sld X hX hbl hbA (lw_in hi0 hi1 (k := 1) (by decide) (by decide)) d_lw_515 (v := xs (i + 1).toNatClampNeg) rfl ?_
    refine z_aload_n X d_lw_516 rfl 0 rfl ?_
    refine z_iload X d_lw_517 4 rfl ?_
    refine z_iconst X d_lw_519 (v := 2) (by decide) ?_
    refine z_iadd X d_lw_520 ?_
    refine z_sld X hX hbl hbA (lw_in hi0 hi1 (k := 2) (by decide) (by decide)) d_lw_521 (v := xs (i + 2).toNatClampNeg) rfl ?_
    refine z_aload_n X d_lw_522 rfl 0 rfl ?_
    refine z_iload X d_lw_523 4 rfl ?_
    refine z_iconst X d_lw_525 (v := 3) (by decide) ?_
    refine z_iadd X d_lw_526 ?_
    refine z_sld X hX hbl hbA (lw_in hi0 hi1 (k := 3) (by decide) (by decide)) d_lw_527 (v := xs (i + 3).toNatClampNeg) rfl ?_
    refine mx_callP (wa := wx') (rest := []) (As := [.int (xs (i + 1).toNatClampNeg), .int (xs (i + 2).toNatClampNeg), .int (xs (i + 3).toNatClampNeg)]) (μ := (fun k => ((Value.ref y :: [.int (xs (i + 1).toNatClampNeg), .int (xs (i + 2).toNatClampNeg), .int (xs (i + 3).toNatClampNeg)])[k]?).getD .null)) X k_L_61 (ac_x_X11_cross_1 l G) hy (fun ad he => pre_mu (C := C_x_X11_cross_1) (ts := [(0, -2147483648, -1), tI0, tI0]) (As := [.int (xs (i + 1).toNatClampNeg), .int (xs (i + 2).toNatClampNeg), .int (xs (i + 3).toNatClampNeg)]) rfl rfl rfl rfl ⟨fun _ => vty_i (i32_lo _) (by omega), fun _ => vty_i0 _, fun _ => vty_i0 _, trivial⟩ ad wm he) rfl d_lw_528 ⟨by decide, by decide⟩ ⟨hc, hs⟩ rfl rfl (Nat.le_of_ble_eq_true rfl) rfl (fun ad2 r wm' hz2 hy' => ?_)
    have hfm := pz_fx hz2
    obtain ⟨v2, -, rfl, w0, w1, -⟩ := pz_a hz2 rfl rfl rfl
    have v0 : -1 ≤ v.toInt := v0
    have v1 : v.toInt ≤ -1 := v1
    have w0 : -1 ≤ v2.toInt := w0
    have w1 : v2.toInt ≤ -1 := w1
    have ev : v.toInt = v2.toInt := by omega
    have hR' : RelQ G wx' wm' := RelQ.of (hR.m.keep hfx hfm (by decide)) (hR.a.keep hfx hfm (by decide)) (hR.d.keep hfx hfm (by decide)) (hR.c.keep hfx hfm (by decide)) (hR.x.keep hfx hfm (by decide)) (hR.b.keep hfx hfm (by decide)) (hR.h.keep hfx hfm (by decide)) (hR.t.keep hfx hfm (by decide)) (hR.k.keep hfx hfm (by decide))
    refine z_pop X d_lw_531 rfl ?_
    refine z_goto X d_lw_532 (tgt := 2192) (by decide) ?_
    exact hK wx' wm' hx' hl' hy' hR'
  · skip
    rw [List.append_assoc]
    refine cx_callP (rest := []) (As := [.int (xs (i + 1).toNatClampNeg), .int (xs (i + 2).toNatClampNeg), .int (xs (i + 3).toNatClampNeg)]) (μ := (fun k => ((Value.ref x :: [.int (xs (i + 1).toNatClampNeg), .int (xs (i + 2).toNatClampNeg), .int (xs (i + 3).toNatClampNeg)])[k]?).getD .null)) X k_L_57 (ac_x_X10_cross_2 l G) (by decide) hx (fun ad w0 he _ => pre_mu (C := C_x_X10_cross_2) (ts := [(0, 2, 2147483647), tI0, tI0]) (As := [.int (xs (i + 1).toNatClampNeg), .int (xs (i + 2).toNatClampNeg), .int (xs (i + 3).toNatClampNeg)]) rfl rfl rfl rfl ⟨fun _ => vty_i (by omega) (i32_hi _), fun _ => vty_i0 _, fun _ => vty_i0 _, trivial⟩ ad w0 he) rfl d_lw_505 ⟨by decide, by decide⟩ ⟨hc, hs⟩ rfl rfl (by decide) rfl (fun ad r wx' hz hx' hl' => ?_)
    rw [← List.append_assoc]
    have hfx := pz_fx hz
    obtain ⟨v, -, rfl, v0, v1, -⟩ := pz_a hz rfl rfl rfl
    refine z_pop X d_lw_508 rfl ?_
    refine z_aload_n X d_lw_509 rfl 2 rfl ?_
    refine z_aload_n X d_lw_510 rfl 0 rfl ?_
    refine z_iload X d_lw_511 4 rfl ?_
    refine z_iconst X d_lw_513 (v := 1) (by decide) ?_
    refine z_iadd X d_lw_514 ?_
    refine z_sld X hX hbl hbA (lw_in hi0 hi1 (k := 1) (by decide) (by decide)) d_lw_515 (v := xs (i + 1).toNatClampNeg) rfl ?_
    refine z_aload_n X d_lw_516 rfl 0 rfl ?_
    refine z_iload X d_lw_517 4 rfl ?_
    refine z_iconst X d_lw_519 (v := 2) (by decide) ?_
    refine z_iadd X d_lw_520 ?_
    refine z_sld X hX hbl hbA (lw_in hi0 hi1 (k := 2) (by decide) (by decide)) d_lw_521 (v := xs (i + 2).toNatClampNeg) rfl ?_
    refine z_aload_n X d_lw_522 rfl 0 rfl ?_
    refine z_iload X d_lw_523 4 rfl ?_
    refine z_iconst X d_lw_525 (v := 3) (by decide) ?_
    refine z_iadd X d_lw_526 ?_
    refine z_sld X hX hbl hbA (lw_in hi0 hi1 (k := 3) (by decide) (by decide)) d_lw_527 (v := xs (i + 3).toNatClampNeg) rfl ?_
    refine mx_callP (wa := wx') (rest := []) (As := [.int (xs (i + 1).toNatClampNeg), .int (xs (i + 2).toNatClampNeg), .int (xs (i + 3).toNatClampNeg)]) (μ := (fun k => ((Value.ref y :: [.int (xs (i + 1).toNatClampNeg), .int (xs (i + 2).toNatClampNeg), .int (xs (i + 3).toNatClampNeg)])[k]?).getD .null)) X k_L_61 (ac_x_X11_cross_2 l G) hy (fun ad he => pre_mu (C := C_x_X11_cross_2) (ts := [(0, 2, 2147483647), tI0, tI0]) (As := [.int (xs (i + 1).toNatClampNeg), .int (xs (i + 2).toNatClampNeg), .int (xs (i + 3).toNatClampNeg)]) rfl rfl rfl rfl ⟨fun _ => vty_i (by omega) (i32_hi _), fun _ => vty_i0 _, fun _ => vty_i0 _, trivial⟩ ad wm he) rfl d_lw_528 ⟨by decide, by decide⟩ ⟨hc, hs⟩ rfl rfl (Nat.le_of_ble_eq_true rfl) rfl (fun ad2 r wm' hz2 hy' => ?_)
    have hfm := pz_fx hz2
    obtain ⟨v2, -, rfl, w0, w1, -⟩ := pz_a hz2 rfl rfl rfl
    have v0 : -1 ≤ v.toInt := v0
    have v1 : v.toInt ≤ -1 := v1
    have w0 : -1 ≤ v2.toInt := w0
    have w1 : v2.toInt ≤ -1 := w1
    have ev : v.toInt = v2.toInt := by omega
    have hR' : RelQ G wx' wm' := RelQ.of (hR.m.keep hfx hfm (by decide)) (hR.a.keep hfx hfm (by decide)) (hR.d.keep hfx hfm (by decide)) (hR.c.keep hfx hfm (by decide)) (hR.x.keep hfx hfm (by decide)) (hR.b.keep hfx hfm (by decide)) (hR.h.keep hfx hfm (by decide)) (hR.t.keep hfx hfm (by decide)) (hR.k.keep hfx hfm (by decide))
    refine z_pop X d_lw_531 rfl ?_
    refine z_goto X d_lw_532 (tgt := 2192) (by decide) ?_
    exact hK wx' wm' hx' hl' hy' hR'
  · skip
    rw [List.append_assoc]
    refine cx_callP (rest := []) (As := [.int (xs (i + 1).toNatClampNeg), .int (xs (i + 2).toNatClampNeg), .int (xs (i + 3).toNatClampNeg)]) (μ := (fun k => ((Value.ref x :: [.int (xs (i + 1).toNatClampNeg), .int (xs (i + 2).toNatClampNeg), .int (xs (i + 3).toNatClampNeg)])[k]?).getD .null)) X k_L_57 (ac_x_X10_cross_3 l G) (by decide) hx (fun ad w0 he _ => pre_mu (C := C_x_X10_cross_3) (ts := [(0, 0, 1), (0, -2147483648, -1), tI0]) (As := [.int (xs (i + 1).toNatClampNeg), .int (xs (i + 2).toNatClampNeg), .int (xs (i + 3).toNatClampNeg)]) rfl rfl rfl rfl ⟨fun _ => vty_i (by omega) (by omega), fun _ => vty_i (i32_lo _) (by omega), fun _ => vty_i0 _, trivial⟩ ad w0 he) rfl d_lw_505 ⟨by decide, by decide⟩ ⟨hc, hs⟩ rfl rfl (by decide) rfl (fun ad r wx' hz hx' hl' => ?_)
    rw [← List.append_assoc]
    have hfx := pz_fx hz
    obtain ⟨v, -, rfl, v0, v1, -⟩ := pz_a hz rfl rfl rfl
    refine z_pop X d_lw_508 rfl ?_
    refine z_aload_n X d_lw_509 rfl 2 rfl ?_
    refine z_aload_n X d_lw_510 rfl 0 rfl ?_
    refine z_iload X d_lw_511 4 rfl ?_
    refine z_iconst X d_lw_513 (v := 1) (by decide) ?_
    refine z_iadd X d_lw_514 ?_
    refine z_sld X hX hbl hbA (lw_in hi0 hi1 (k := 1) (by decide) (by decide)) d_lw_515 (v := xs (i + 1).toNatClampNeg) rfl ?_
    refine z_aload_n X d_lw_516 rfl 0 rfl ?_
    refine z_iload X d_lw_517 4 rfl ?_
    refine z_iconst X d_lw_519 (v := 2) (by decide) ?_
    refine z_iadd X d_lw_520 ?_
    refine z_sld X hX hbl hbA (lw_in hi0 hi1 (k := 2) (by decide) (by decide)) d_lw_521 (v := xs (i + 2).toNatClampNeg) rfl ?_
    refine z_aload_n X d_lw_522 rfl 0 rfl ?_
    refine z_iload X d_lw_523 4 rfl ?_
    refine z_iconst X d_lw_525 (v := 3) (by decide) ?_
    refine z_iadd X d_lw_526 ?_
    refine z_sld X hX hbl hbA (lw_in hi0 hi1 (k := 3) (by decide) (by decide)) d_lw_527 (v := xs (i + 3).toNatClampNeg) rfl ?_
    refine mx_callP (wa := wx') (rest := []) (As := [.int (xs (i + 1).toNatClampNeg), .int (xs (i + 2).toNatClampNeg), .int (xs (i + 3).toNatClampNeg)]) (μ := (fun k => ((Value.ref y :: [.int (xs (i + 1).toNatClampNeg), .int (xs (i + 2).toNatClampNeg), .int (xs (i + 3).toNatClampNeg)])[k]?).getD .null)) X k_L_61 (ac_x_X11_cross_3 l G) hy (fun ad he => pre_mu (C := C_x_X11_cross_3) (ts := [(0, 0, 1), (0, -2147483648, -1), tI0]) (As := [.int (xs (i + 1).toNatClampNeg), .int (xs (i + 2).toNatClampNeg), .int (xs (i + 3).toNatClampNeg)]) rfl rfl rfl rfl ⟨fun _ => vty_i (by omega) (by omega), fun _ => vty_i (i32_lo _) (by omega), fun _ => vty_i0 _, trivial⟩ ad wm he) rfl d_lw_528 ⟨by decide, by decide⟩ ⟨hc, hs⟩ rfl rfl (Nat.le_of_ble_eq_true rfl) rfl (fun ad2 r wm' hz2 hy' => ?_)
    have hfm := pz_fx hz2
    obtain ⟨v2, -, rfl, w0, w1, -⟩ := pz_a hz2 rfl rfl rfl
    have v0 : -1 ≤ v.toInt := v0
    have v1 : v.toInt ≤ -1 := v1
    have w0 : -1 ≤ v2.toInt := w0
    have w1 : v2.toInt ≤ -1 := w1
    have ev : v.toInt = v2.toInt := by omega
    have hR' : RelQ G wx' wm' := RelQ.of (hR.m.keep hfx hfm (by decide)) (hR.a.keep hfx hfm (by decide)) (hR.d.keep hfx hfm (by decide)) (hR.c.keep hfx hfm (by decide)) (hR.x.keep hfx hfm (by decide)) (hR.b.keep hfx hfm (by decide)) (hR.h.keep hfx hfm (by decide)) (hR.t.keep hfx hfm (by decide)) (hR.k.keep hfx hfm (by decide))
    refine z_pop X d_lw_531 rfl ?_
    refine z_goto X d_lw_532 (tgt := 2192) (by decide) ?_
    exact hK wx' wm' hx' hl' hy' hR'
  · skip
    rw [List.append_assoc]
    refine cx_callP (rest := []) (As := [.int (xs (i + 1).toNatClampNeg), .int (xs (i + 2).toNatClampNeg), .int (xs (i + 3).toNatClampNeg)]) (μ := (fun k => ((Value.ref x :: [.int (xs (i + 1).toNatClampNeg), .int (xs (i + 2).toNatClampNeg), .int (xs (i + 3).toNatClampNeg)])[k]?).getD .null)) X k_L_57 (ac_x_X10_cross_4 l G) (by decide) hx (fun ad w0 he _ => pre_mu (C := C_x_X10_cross_4) (ts := [(0, 0, 1), (0, 2, 2147483647), tI0]) (As := [.int (xs (i + 1).toNatClampNeg), .int (xs (i + 2).toNatClampNeg), .int (xs (i + 3).toNatClampNeg)]) rfl rfl rfl rfl ⟨fun _ => vty_i (by omega) (by omega), fun _ => vty_i (by omega) (i32_hi _), fun _ => vty_i0 _, trivial⟩ ad w0 he) rfl d_lw_505 ⟨by decide, by decide⟩ ⟨hc, hs⟩ rfl rfl (by decide) rfl (fun ad r wx' hz hx' hl' => ?_)
    rw [← List.append_assoc]
    have hfx := pz_fx hz
    obtain ⟨v, -, rfl, v0, v1, -⟩ := pz_a hz rfl rfl rfl
    refine z_pop X d_lw_508 rfl ?_
    refine z_aload_n X d_lw_509 rfl 2 rfl ?_
    refine z_aload_n X d_lw_510 rfl 0 rfl ?_
    refine z_iload X d_lw_511 4 rfl ?_
    refine z_iconst X d_lw_513 (v := 1) (by decide) ?_
    refine z_iadd X d_lw_514 ?_
    refine z_sld X hX hbl hbA (lw_in hi0 hi1 (k := 1) (by decide) (by decide)) d_lw_515 (v := xs (i + 1).toNatClampNeg) rfl ?_
    refine z_aload_n X d_lw_516 rfl 0 rfl ?_
    refine z_iload X d_lw_517 4 rfl ?_
    refine z_iconst X d_lw_519 (v := 2) (by decide) ?_
    refine z_iadd X d_lw_520 ?_
    refine z_sld X hX hbl hbA (lw_in hi0 hi1 (k := 2) (by decide) (by decide)) d_lw_521 (v := xs (i + 2).toNatClampNeg) rfl ?_
    refine z_aload_n X d_lw_522 rfl 0 rfl ?_
    refine z_iload X d_lw_523 4 rfl ?_
    refine z_iconst X d_lw_525 (v := 3) (by decide) ?_
    refine z_iadd X d_lw_526 ?_
    refine z_sld X hX hbl hbA (lw_in hi0 hi1 (k := 3) (by decide) (by decide)) d_lw_527 (v := xs (i + 3).toNatClampNeg) rfl ?_
    refine mx_callP (wa := wx') (rest := []) (As := [.int (xs (i + 1).toNatClampNeg), .int (xs (i + 2).toNatClampNeg), .int (xs (i + 3).toNatClampNeg)]) (μ := (fun k => ((Value.ref y :: [.int (xs (i + 1).toNatClampNeg), .int (xs (i + 2).toNatClampNeg), .int (xs (i + 3).toNatClampNeg)])[k]?).getD .null)) X k_L_61 (ac_x_X11_cross_4 l G) hy (fun ad he => pre_mu (C := C_x_X11_cross_4) (ts := [(0, 0, 1), (0, 2, 2147483647), tI0]) (As := [.int (xs (i + 1).toNatClampNeg), .int (xs (i + 2).toNatClampNeg), .int (xs (i + 3).toNatClampNeg)]) rfl rfl rfl rfl ⟨fun _ => vty_i (by omega) (by omega), fun _ => vty_i (by omega) (i32_hi _), fun _ => vty_i0 _, trivial⟩ ad wm he) rfl d_lw_528 ⟨by decide, by decide⟩ ⟨hc, hs⟩ rfl rfl (Nat.le_of_ble_eq_true rfl) rfl (fun ad2 r wm' hz2 hy' => ?_)
    have hfm := pz_fx hz2
    obtain ⟨v2, -, rfl, w0, w1, -⟩ := pz_a hz2 rfl rfl rfl
    have v0 : -1 ≤ v.toInt := v0
    have v1 : v.toInt ≤ -1 := v1
    have w0 : -1 ≤ v2.toInt := w0
    have w1 : v2.toInt ≤ -1 := w1
    have ev : v.toInt = v2.toInt := by omega
    have hR' : RelQ G wx' wm' := RelQ.of (hR.m.keep hfx hfm (by decide)) (hR.a.keep hfx hfm (by decide)) (hR.d.keep hfx hfm (by decide)) (hR.c.keep hfx hfm (by decide)) (hR.x.keep hfx hfm (by decide)) (hR.b.keep hfx hfm (by decide)) (hR.h.keep hfx hfm (by decide)) (hR.t.keep hfx hfm (by decide)) (hR.k.keep hfx hfm (by decide))
    refine z_pop X d_lw_531 rfl ?_
    refine z_goto X d_lw_532 (tgt := 2192) (by decide) ?_
    exact hK wx' wm' hx' hl' hy' hR'
  · skip
    rw [List.append_assoc]
    refine cx_callP (rest := []) (As := [.int (xs (i + 1).toNatClampNeg), .int (xs (i + 2).toNatClampNeg), .int (xs (i + 3).toNatClampNeg)]) (μ := (fun k => ((Value.ref x :: [.int (xs (i + 1).toNatClampNeg), .int (xs (i + 2).toNatClampNeg), .int (xs (i + 3).toNatClampNeg)])[k]?).getD .null)) X k_L_57 (ac_x_X10_cross_5 l G) (by decide) hx (fun ad w0 he _ => pre_mu (C := C_x_X10_cross_5) (ts := [(0, 0, 1), (0, 0, 1), (0, -2147483648, -10)]) (As := [.int (xs (i + 1).toNatClampNeg), .int (xs (i + 2).toNatClampNeg), .int (xs (i + 3).toNatClampNeg)]) rfl rfl rfl rfl ⟨fun _ => vty_i (by omega) (by omega), fun _ => vty_i (by omega) (by omega), fun _ => vty_i (i32_lo _) (by omega), trivial⟩ ad w0 he) rfl d_lw_505 ⟨by decide, by decide⟩ ⟨hc, hs⟩ rfl rfl (by decide) rfl (fun ad r wx' hz hx' hl' => ?_)
    rw [← List.append_assoc]
    have hfx := pz_fx hz
    obtain ⟨v, -, rfl, v0, v1, -⟩ := pz_a hz rfl rfl rfl
    refine z_pop X d_lw_508 rfl ?_
    refine z_aload_n X d_lw_509 rfl 2 rfl ?_
    refine z_aload_n X d_lw_510 rfl 0 rfl ?_
    refine z_iload X d_lw_511 4 rfl ?_
    refine z_iconst X d_lw_513 (v := 1) (by decide) ?_
    refine z_iadd X d_lw_514 ?_
    refine z_sld X hX hbl hbA (lw_in hi0 hi1 (k := 1) (by decide) (by decide)) d_lw_515 (v := xs (i + 1).toNatClampNeg) rfl ?_
    refine z_aload_n X d_lw_516 rfl 0 rfl ?_
    refine z_iload X d_lw_517 4 rfl ?_
    refine z_iconst X d_lw_519 (v := 2) (by decide) ?_
    refine z_iadd X d_lw_520 ?_
    refine z_sld X hX hbl hbA (lw_in hi0 hi1 (k := 2) (by decide) (by decide)) d_lw_521 (v := xs (i + 2).toNatClampNeg) rfl ?_
    refine z_aload_n X d_lw_522 rfl 0 rfl ?_
    refine z_iload X d_lw_523 4 rfl ?_
    refine z_iconst X d_lw_525 (v := 3) (by decide) ?_
    refine z_iadd X d_lw_526 ?_
    refine z_sld X hX hbl hbA (lw_in hi0 hi1 (k := 3) (by decide) (by decide)) d_lw_527 (v := xs (i + 3).toNatClampNeg) rfl ?_
    refine mx_callP (wa := wx') (rest := []) (As := [.int (xs (i + 1).toNatClampNeg), .int (xs (i + 2).toNatClampNeg), .int (xs (i + 3).toNatClampNeg)]) (μ := (fun k => ((Value.ref y :: [.int (xs (i + 1).toNatClampNeg), .int (xs (i + 2).toNatClampNeg), .int (xs (i + 3).toNatClampNeg)])[k]?).getD .null)) X k_L_61 (ac_x_X11_cross_5 l G) hy (fun ad he => pre_mu (C := C_x_X11_cross_5) (ts := [(0, 0, 1), (0, 0, 1), (0, -2147483648, -10)]) (As := [.int (xs (i + 1).toNatClampNeg), .int (xs (i + 2).toNatClampNeg), .int (xs (i + 3).toNatClampNeg)]) rfl rfl rfl rfl ⟨fun _ => vty_i (by omega) (by omega), fun _ => vty_i (by omega) (by omega), fun _ => vty_i (i32_lo _) (by omega), trivial⟩ ad wm he) rfl d_lw_528 ⟨by decide, by decide⟩ ⟨hc, hs⟩ rfl rfl (Nat.le_of_ble_eq_true rfl) rfl (fun ad2 r wm' hz2 hy' => ?_)
    have hfm := pz_fx hz2
    obtain ⟨v2, -, rfl, w0, w1, -⟩ := pz_a hz2 rfl rfl rfl
    have v0 : -1 ≤ v.toInt := v0
    have v1 : v.toInt ≤ -1 := v1
    have w0 : -1 ≤ v2.toInt := w0
    have w1 : v2.toInt ≤ -1 := w1
    have ev : v.toInt = v2.toInt := by omega
    have hR' : RelQ G wx' wm' := RelQ.of (hR.m.keep hfx hfm (by decide)) (hR.a.keep hfx hfm (by decide)) (hR.d.keep hfx hfm (by decide)) (hR.c.keep hfx hfm (by decide)) (hR.x.keep hfx hfm (by decide)) (hR.b.keep hfx hfm (by decide)) (hR.h.keep hfx hfm (by decide)) (hR.t.keep hfx hfm (by decide)) (hR.k.keep hfx hfm (by decide))
    refine z_pop X d_lw_531 rfl ?_
    refine z_goto X d_lw_532 (tgt := 2192) (by decide) ?_
    exact hK wx' wm' hx' hl' hy' hR'
  · skip
    rw [List.append_assoc]
    refine cx_callP (rest := []) (As := [.int (xs (i + 1).toNatClampNeg), .int (xs (i + 2).toNatClampNeg), .int (xs (i + 3).toNatClampNeg)]) (μ := (fun k => ((Value.ref x :: [.int (xs (i + 1).toNatClampNeg), .int (xs (i + 2).toNatClampNeg), .int (xs (i + 3).toNatClampNeg)])[k]?).getD .null)) X k_L_57 (ac_x_X10_cross_6 l G) (by decide) hx (fun ad w0 he _ => pre_mu (C := C_x_X10_cross_6) (ts := [(0, 0, 1), (0, 0, 1), (0, 10, 2147483647)]) (As := [.int (xs (i + 1).toNatClampNeg), .int (xs (i + 2).toNatClampNeg), .int (xs (i + 3).toNatClampNeg)]) rfl rfl rfl rfl ⟨fun _ => vty_i (by omega) (by omega), fun _ => vty_i (by omega) (by omega), fun _ => vty_i (by omega) (i32_hi _), trivial⟩ ad w0 he) rfl d_lw_505 ⟨by decide, by decide⟩ ⟨hc, hs⟩ rfl rfl (by decide) rfl (fun ad r wx' hz hx' hl' => ?_)
    rw [← List.append_assoc]
    have hfx := pz_fx hz
    obtain ⟨v, -, rfl, v0, v1, -⟩ := pz_a hz rfl rfl rfl
    refine z_pop X d_lw_508 rfl ?_
    refine z_aload_n X d_lw_509 rfl 2 rfl ?_
    refine z_aload_n X d_lw_510 rfl 0 rfl ?_
    refine z_iload X d_lw_511 4 rfl ?_
    refine z_iconst X d_lw_513 (v := 1) (by decide) ?_
    refine z_iadd X d_lw_514 ?_
    refine z_sld X hX hbl hbA (lw_in hi0 hi1 (k := 1) (by decide) (by decide)) d_lw_515 (v := xs (i + 1).toNatClampNeg) rfl ?_
    refine z_aload_n X d_lw_516 rfl 0 rfl ?_
    refine z_iload X d_lw_517 4 rfl ?_
    refine z_iconst X d_lw_519 (v := 2) (by decide) ?_
    refine z_iadd X d_lw_520 ?_
    refine z_sld X hX hbl hbA (lw_in hi0 hi1 (k := 2) (by decide) (by decide)) d_lw_521 (v := xs (i + 2).toNatClampNeg) rfl ?_
    refine z_aload_n X d_lw_522 rfl 0 rfl ?_
    refine z_iload X d_lw_523 4 rfl ?_
    refine z_iconst X d_lw_525 (v := 3) (by decide) ?_
    refine z_iadd X d_lw_526 ?_
    refine z_sld X hX hbl hbA (lw_in hi0 hi1 (k := 3) (by decide) (by decide)) d_lw_527 (v := xs (i + 3).toNatClampNeg) rfl ?_
    refine mx_callP (wa := wx') (rest := []) (As := [.int (xs (i + 1).toNatClampNeg), .int (xs (i + 2).toNatClampNeg), .int (xs (i + 3).toNatClampNeg)]) (μ := (fun k => ((Value.ref y :: [.int (xs (i + 1).toNatClampNeg), .int (xs (i + 2).toNatClampNeg), .int (xs (i + 3).toNatClampNeg)])[k]?).getD .null)) X k_L_61 (ac_x_X11_cross_6 l G) hy (fun ad he => pre_mu (C := C_x_X11_cross_6) (ts := [(0, 0, 1), (0, 0, 1), (0, 10, 2147483647)]) (As := [.int (xs (i + 1).toNatClampNeg), .int (xs (i + 2).toNatClampNeg), .int (xs (i + 3).toNatClampNeg)]) rfl rfl rfl rfl ⟨fun _ => vty_i (by omega) (by omega), fun _ => vty_i (by omega) (by omega), fun _ => vty_i (by omega) (i32_hi _), trivial⟩ ad wm he) rfl d_lw_528 ⟨by decide, by decide⟩ ⟨hc, hs⟩ rfl rfl (Nat.le_of_ble_eq_true rfl) rfl (fun ad2 r wm' hz2 hy' => ?_)
    have hfm := pz_fx hz2
    obtain ⟨v2, -, rfl, w0, w1, -⟩ := pz_a hz2 rfl rfl rfl
    have v0 : -1 ≤ v.toInt := v0
    have v1 : v.toInt ≤ -1 := v1
    have w0 : -1 ≤ v2.toInt := w0
    have w1 : v2.toInt ≤ -1 := w1
    have ev : v.toInt = v2.toInt := by omega
    have hR' : RelQ G wx' wm' := RelQ.of (hR.m.keep hfx hfm (by decide)) (hR.a.keep hfx hfm (by decide)) (hR.d.keep hfx hfm (by decide)) (hR.c.keep hfx hfm (by decide)) (hR.x.keep hfx hfm (by decide)) (hR.b.keep hfx hfm (by decide)) (hR.h.keep hfx hfm (by decide)) (hR.t.keep hfx hfm (by decide)) (hR.k.keep hfx hfm (by decide))
    refine z_pop X d_lw_531 rfl ?_
    refine z_goto X d_lw_532 (tgt := 2192) (by decide) ?_
    exact hK wx' wm' hx' hl' hy' hR'
  · skip
    have hb : xs (i + 1).toNatClampNeg = 0 ∨ xs (i + 1).toNatClampNeg = 1 := (by omega : (xs (i + 1).toNatClampNeg).toInt = 0 ∨ (xs (i + 1).toNatClampNeg).toInt = 1).imp (fun h => Int32.toInt_inj.mp h) (fun h => Int32.toInt_inj.mp h)
    have hq : xs (i + 2).toNatClampNeg = 0 ∨ xs (i + 2).toNatClampNeg = 1 := (by omega : (xs (i + 2).toNatClampNeg).toInt = 0 ∨ (xs (i + 2).toNatClampNeg).toInt = 1).imp (fun h => Int32.toInt_inj.mp h) (fun h => Int32.toInt_inj.mp h)
    have hj : (2 * xs (i + 1).toNatClampNeg + xs (i + 2).toNatClampNeg).toNatClampNeg < 4 := by rcases hb with h | h <;> rcases hq with h2 | h2 <;> rw [h, h2] <;> decide
    rw [List.append_assoc]
    refine cx_callG (rm := rm_cxr) (m0 := [(103, 999)]) (Ψ := (fun r w1 => r = some (.int (f9 (2 * xs (i + 1).toNatClampNeg + xs (i + 2).toNatClampNeg).toNatClampNeg)) ∧ cget w1 103 0 = some (.inr (cyI G, 4, .inl (upd f9 (2 * xs (i + 1).toNatClampNeg + xs (i + 2).toNatClampNeg).toNatClampNeg (xs (i + 3).toNatClampNeg)))))) (rest := []) (As := [.int (xs (i + 1).toNatClampNeg), .int (xs (i + 2).toNatClampNeg), .int (xs (i + 3).toNatClampNeg)]) X k_L_57 (fun ad w0 hW hag => Ct.weak (ac_cxr l G (xs (i + 1).toNatClampNeg) (xs (i + 2).toNatClampNeg) (xs (i + 3).toNatClampNeg) hW ((hag 103 0 (by decide)).trans hf9) hb hq (by omega) (by omega)) (fun r w1 h => ⟨h.2.1, h.2.2.1, h.1, h.2.2.2⟩)) ⟨rfl, rfl⟩ (by decide) (fun r w1 wc hl h => ⟨h.1, by rw [← h.2]; unfold cget; rw [List.getElem?_append_left (by omega)]⟩) hx d_lw_505 ⟨by decide, by decide⟩ ⟨hc, hs⟩ rfl rfl (by decide) rfl (fun r wx' hz hx' hl' hfx => ?_)
    rw [← List.append_assoc]
    obtain ⟨rfl, hc1⟩ := hz
    refine z_pop X d_lw_508 rfl ?_
    refine z_aload_n X d_lw_509 rfl 2 rfl ?_
    refine z_aload_n X d_lw_510 rfl 0 rfl ?_
    refine z_iload X d_lw_511 4 rfl ?_
    refine z_iconst X d_lw_513 (v := 1) (by decide) ?_
    refine z_iadd X d_lw_514 ?_
    refine z_sld X hX hbl hbA (lw_in hi0 hi1 (k := 1) (by decide) (by decide)) d_lw_515 (v := xs (i + 1).toNatClampNeg) rfl ?_
    refine z_aload_n X d_lw_516 rfl 0 rfl ?_
    refine z_iload X d_lw_517 4 rfl ?_
    refine z_iconst X d_lw_519 (v := 2) (by decide) ?_
    refine z_iadd X d_lw_520 ?_
    refine z_sld X hX hbl hbA (lw_in hi0 hi1 (k := 2) (by decide) (by decide)) d_lw_521 (v := xs (i + 2).toNatClampNeg) rfl ?_
    refine z_aload_n X d_lw_522 rfl 0 rfl ?_
    refine z_iload X d_lw_523 4 rfl ?_
    refine z_iconst X d_lw_525 (v := 3) (by decide) ?_
    refine z_iadd X d_lw_526 ?_
    refine z_sld X hX hbl hbA (lw_in hi0 hi1 (k := 3) (by decide) (by decide)) d_lw_527 (v := xs (i + 3).toNatClampNeg) rfl ?_
    refine mx_callG (rm := rm_cmr) (m0 := [(15, 999), (0, 0)]) (Ψ := (fun r w1 => r = some (.int (g9 (2 * xs (i + 1).toNatClampNeg + xs (i + 2).toNatClampNeg).toNatClampNeg)) ∧ cget w1 15 0 = some (.inr (cyI G, 4, .inl (upd g9 (2 * xs (i + 1).toNatClampNeg + xs (i + 2).toNatClampNeg).toNatClampNeg (xs (i + 3).toNatClampNeg)))))) (wa := wx') (rest := []) (As := [.int (xs (i + 1).toNatClampNeg), .int (xs (i + 2).toNatClampNeg), .int (xs (i + 3).toNatClampNeg)]) X k_L_61 (fun ad hW => Ct.weak (ac_cmr l G (xs (i + 1).toNatClampNeg) (xs (i + 2).toNatClampNeg) (xs (i + 3).toNatClampNeg) hW hg9 hb hq (by omega) (by omega)) (fun r w1 h => ⟨h.2.1, h.2.2.1, h.1, h.2.2.2⟩)) ⟨rfl, rfl⟩ hy d_lw_528 ⟨by decide, by decide⟩ ⟨hc, hs⟩ rfl rfl (Nat.le_of_ble_eq_true rfl) rfl (fun r wm' hz hy' hfm => ?_)
    obtain ⟨rfl, hc2⟩ := hz
    have ev : (f9 (2 * xs (i + 1).toNatClampNeg + xs (i + 2).toNatClampNeg).toNatClampNeg).toInt = (g9 (2 * xs (i + 1).toNatClampNeg + xs (i + 2).toNatClampNeg).toNatClampNeg).toInt := congrArg Int32.toInt (hfg _ hj)
    have hC' : RelC G wx' wm' := ⟨_, _, hc1, hc2, fun k hk => by unfold upd; rw [hfg k hk]⟩
    have hR' : RelQ G wx' wm' := RelQ.of (hR.m.keep hfx hfm (by decide)) (hR.a.keep hfx hfm (by decide)) (hR.d.keep hfx hfm (by decide)) (hC') (hR.x.keep hfx hfm (by decide)) (hR.b.keep hfx hfm (by decide)) (hR.h.keep hfx hfm (by decide)) (hR.t.keep hfx hfm (by decide)) (hR.k.keep hfx hfm (by decide))
    refine z_pop X d_lw_531 rfl ?_
    refine z_goto X d_lw_532 (tgt := 2192) (by decide) ?_
    exact hK wx' wm' hx' hl' hy' hR'
theorem lc_8 (X : ZC p s m #[Value.ref b] meth c code 8 RL G (fun q : Nat => s.heap.size ≤ q) ret nm) (hX : va_X b L xs s s.heap) (hbl : b < s.heap.size) (hbA : ¬ s.heap.size ≤ b) (hi0 : 0 ≤ i.toInt) (hi1 : i.toInt + 10 ≤ (L : Int) ∧ L ≤ 5120) (hx : CWx G x wx) (hy : MWx G y wm) (hR : RelQ G wx wm) (hc : kc ≤ room_1.cells) (hs : ks ≤ room_1.slots) (hK : ∀ wx' wm', CWx G x wx' → wx'.length = wx.length → MWx G y wm' → RelQ G wx' wm' → Z p l e room_1 s m #[Value.ref b] below meth c 8 G (fun q : Nat => s.heap.size ≤ q) (lw_Z below #[Value.ref b] s) 2192 (lv5 b x y o i) [] (wx' ++ wm' ++ [(o, aJ G 1 f)]) kc ks) : Z p l e room_1 s m #[Value.ref b] below meth c 8 G (fun q : Nat => s.heap.size ≤ q) (lw_Z below #[Value.ref b] s) 535 (lv5 b x y o i) [] (wx ++ wm ++ [(o, aJ G 1 f)]) kc ks := by
  refine z_aload_n X d_lw_535 rfl 1 rfl ?_
  refine z_aload_n X d_lw_536 rfl 0 rfl ?_
  refine z_iload X d_lw_537 4 rfl ?_
  refine z_iconst X d_lw_539 (v := 1) (by decide) ?_
  refine z_iadd X d_lw_540 ?_
  refine z_sld X hX hbl hbA (lw_in hi0 hi1 (k := 1) (by decide) (by decide)) d_lw_541 (v := xs (i + 1).toNatClampNeg) rfl ?_
  refine z_aload_n X d_lw_542 rfl 0 rfl ?_
  refine z_iload X d_lw_543 4 rfl ?_
  refine z_iconst X d_lw_545 (v := 2) (by decide) ?_
  refine z_iadd X d_lw_546 ?_
  refine z_sld X hX hbl hbA (lw_in hi0 hi1 (k := 2) (by decide) (by decide)) d_lw_547 (v := xs (i + 2).toNatClampNeg) rfl ?_
  refine z_aload_n X d_lw_548 rfl 0 rfl ?_
  refine z_iload X d_lw_549 4 rfl ?_
  refine z_iconst X d_lw_551 (v := 3) (by decide) ?_
  refine z_iadd X d_lw_552 ?_
  refine z_sld X hX hbl hbA (lw_in hi0 hi1 (k := 3) (by decide) (by decide)) d_lw_553 (v := xs (i + 3).toNatClampNeg) rfl ?_
  rw [List.append_assoc]
  refine cx_callF (k := 0) (rest := []) (As := [.int (xs (i + 1).toNatClampNeg), .int (xs (i + 2).toNatClampNeg), .int (xs (i + 3).toNatClampNeg)]) (μ := (fun k => ((Value.ref x :: [.int (xs (i + 1).toNatClampNeg), .int (xs (i + 2).toNatClampNeg), .int (xs (i + 3).toNatClampNeg)])[k]?).getD .null)) X k_L_62 (ac_X10_truly_0 l G) (by decide) (by decide) (by decide) hx (fun ad w0 he => pre_mu (C := C_X10_truly_0) (ts := [tI0, tI0, tI0]) (As := [.int (xs (i + 1).toNatClampNeg), .int (xs (i + 2).toNatClampNeg), .int (xs (i + 3).toNatClampNeg)]) rfl rfl rfl rfl ⟨fun _ => vty_i0 _, fun _ => vty_i0 _, fun _ => vty_i0 _, trivial⟩ ad w0 he) rfl d_lw_554 ⟨by decide, by decide⟩ ⟨hc, hs⟩ rfl rfl (by decide) rfl (fun r wx' hr hx' hl' hfx => ?_)
  rw [← List.append_assoc]
  rcases hr with ⟨h, -⟩ | ⟨-, v, rfl⟩ | ⟨h, -⟩
  all_goals first | (exact absurd h (by decide)) | skip
  refine z_pop X d_lw_557 rfl ?_
  refine z_aload_n X d_lw_558 rfl 2 rfl ?_
  refine z_aload_n X d_lw_559 rfl 0 rfl ?_
  refine z_iload X d_lw_560 4 rfl ?_
  refine z_iconst X d_lw_562 (v := 1) (by decide) ?_
  refine z_iadd X d_lw_563 ?_
  refine z_sld X hX hbl hbA (lw_in hi0 hi1 (k := 1) (by decide) (by decide)) d_lw_564 (v := xs (i + 1).toNatClampNeg) rfl ?_
  refine z_aload_n X d_lw_565 rfl 0 rfl ?_
  refine z_iload X d_lw_566 4 rfl ?_
  refine z_iconst X d_lw_568 (v := 2) (by decide) ?_
  refine z_iadd X d_lw_569 ?_
  refine z_sld X hX hbl hbA (lw_in hi0 hi1 (k := 2) (by decide) (by decide)) d_lw_570 (v := xs (i + 2).toNatClampNeg) rfl ?_
  refine z_aload_n X d_lw_571 rfl 0 rfl ?_
  refine z_iload X d_lw_572 4 rfl ?_
  refine z_iconst X d_lw_574 (v := 3) (by decide) ?_
  refine z_iadd X d_lw_575 ?_
  refine z_sld X hX hbl hbA (lw_in hi0 hi1 (k := 3) (by decide) (by decide)) d_lw_576 (v := xs (i + 3).toNatClampNeg) rfl ?_
  refine mx_callF (k := 0) (wa := wx') (rest := []) (As := [.int (xs (i + 1).toNatClampNeg), .int (xs (i + 2).toNatClampNeg), .int (xs (i + 3).toNatClampNeg)]) (μ := (fun k => ((Value.ref y :: [.int (xs (i + 1).toNatClampNeg), .int (xs (i + 2).toNatClampNeg), .int (xs (i + 3).toNatClampNeg)])[k]?).getD .null)) X k_L_66 (ac_X11_truly_0 l G) (by decide) (by decide) hy (fun ad w0 he => pre_mu (C := C_X11_truly_0) (ts := [tI0, tI0, tI0]) (As := [.int (xs (i + 1).toNatClampNeg), .int (xs (i + 2).toNatClampNeg), .int (xs (i + 3).toNatClampNeg)]) rfl rfl rfl rfl ⟨fun _ => vty_i0 _, fun _ => vty_i0 _, fun _ => vty_i0 _, trivial⟩ ad w0 he) rfl d_lw_577 ⟨by decide, by decide⟩ ⟨hc, hs⟩ rfl rfl (Nat.le_of_ble_eq_true rfl) rfl (fun r wm' hr hy' hfm => ?_)
  rcases hr with ⟨h, -⟩ | ⟨-, v, rfl⟩ | ⟨h, -⟩
  all_goals first | (exact absurd h (by decide)) | skip
  refine z_pop X d_lw_580 rfl ?_
  refine z_goto X d_lw_581 (tgt := 2192) (by decide) ?_
  exact hK wx' wm' hx' hl' hy' (RelQ.of (hR.m.keep hfx hfm (by decide)) (hR.a.keep hfx hfm (by decide)) (hR.d.keep hfx hfm (by decide)) (hR.c.keep hfx hfm (by decide)) (hR.x.keep hfx hfm (by decide)) (hR.b.keep hfx hfm (by decide)) (hR.h.keep hfx hfm (by decide)) (hR.t.keep hfx hfm (by decide)) (hR.k.keep hfx hfm (by decide)))
theorem lc_9 (X : ZC p s m #[Value.ref b] meth c code 8 RL G (fun q : Nat => s.heap.size ≤ q) ret nm) (hX : va_X b L xs s s.heap) (hbl : b < s.heap.size) (hbA : ¬ s.heap.size ≤ b) (hi0 : 0 ≤ i.toInt) (hi1 : i.toInt + 10 ≤ (L : Int) ∧ L ≤ 5120) (hx : CWx G x wx) (hy : MWx G y wm) (hR : RelQ G wx wm) (hc : kc ≤ room_1.cells) (hs : ks ≤ room_1.slots) (hK : ∀ wx' wm', CWx G x wx' → wx'.length = wx.length → MWx G y wm' → RelQ G wx' wm' → Z p l e room_1 s m #[Value.ref b] below meth c 8 G (fun q : Nat => s.heap.size ≤ q) (lw_Z below #[Value.ref b] s) 2192 (lv5 b x y o i) [] (wx' ++ wm' ++ [(o, aJ G 1 f)]) kc ks) : Z p l e room_1 s m #[Value.ref b] below meth c 8 G (fun q : Nat => s.heap.size ≤ q) (lw_Z below #[Value.ref b] s) 584 (lv5 b x y o i) [] (wx ++ wm ++ [(o, aJ G 1 f)]) kc ks := by
  obtain ⟨n, h9, s9, c9, f9, g9, ⟨n0, n1⟩, rc9, e9, ⟨hn1, hn2⟩, ⟨a2, b2⟩, ⟨a3, b3⟩, ⟨a4, b4⟩, a5, b5⟩ := id hR.m
  refine z_aload_n X d_lw_584 rfl 1 rfl ?_
  refine z_aload_n X d_lw_585 rfl 0 rfl ?_
  refine z_iload X d_lw_586 4 rfl ?_
  refine z_iconst X d_lw_588 (v := 1) (by decide) ?_
  refine z_iadd X d_lw_589 ?_
  refine z_sld X hX hbl hbA (lw_in hi0 hi1 (k := 1) (by decide) (by decide)) d_lw_590 (v := xs (i + 1).toNatClampNeg) rfl ?_
  refine z_aload_n X d_lw_591 rfl 0 rfl ?_
  refine z_iload X d_lw_592 4 rfl ?_
  refine z_iconst X d_lw_594 (v := 2) (by decide) ?_
  refine z_iadd X d_lw_595 ?_
  refine z_sld X hX hbl hbA (lw_in hi0 hi1 (k := 2) (by decide) (by decide)) d_lw_596 (v := xs (i + 2).toNatClampNeg) rfl ?_
  refine z_aload_n X d_lw_597 rfl 0 rfl ?_
  refine z_iload X d_lw_598 4 rfl ?_
  refine z_iconst X d_lw_600 (v := 3) (by decide) ?_
  refine z_iadd X d_lw_601 ?_
  refine z_sld X hX hbl hbA (lw_in hi0 hi1 (k := 3) (by decide) (by decide)) d_lw_602 (v := xs (i + 3).toNatClampNeg) rfl ?_
  obtain ⟨tq, tX9, tY9, t1, t2, t3, t4, t5⟩ := id hR.t
  obtain ⟨l1, l2⟩ := think_E (a := xs (i + 1).toNatClampNeg) (b := xs (i + 2).toNatClampNeg) (c := xs (i + 3).toNatClampNeg) t4 t5
  rw [List.append_assoc]
  refine cx_callG (rm := { frames := 2, cells := 0, slots := 0, locals := 44 }) (m0 := C_X10_think_0.2.2.2.2.1) (Ψ := (fun r w1 => (∃ v : Int32, r = some (.int v)) ∧ CQ G w1 105 8 (mMass tq (xs (i + 1).toNatClampNeg) (xs (i + 2).toNatClampNeg) (xs (i + 3).toNatClampNeg)))) (rest := []) (As := [.int (xs (i + 1).toNatClampNeg), .int (xs (i + 2).toNatClampNeg), .int (xs (i + 3).toNatClampNeg)]) X k_L_67 (fun ad w0 hW hag => ac_tkx l G hW ((hag 105 0 (by decide)).trans t1)) ⟨rfl, rfl⟩ (by decide) (fun r w1 wc hl h => ⟨h.1, h.2.app (by omega)⟩) hx d_lw_603 ⟨by decide, by decide⟩ ⟨hc, hs⟩ rfl rfl (by decide) rfl (fun r wx' hz hx' hl' hfx => ?_)
  rw [← List.append_assoc]
  obtain ⟨v, rfl⟩ := hz.1
  refine z_pop X d_lw_606 rfl ?_
  refine z_aload_n X d_lw_607 rfl 2 rfl ?_
  refine z_aload_n X d_lw_608 rfl 0 rfl ?_
  refine z_iload X d_lw_609 4 rfl ?_
  refine z_iconst X d_lw_611 (v := 1) (by decide) ?_
  refine z_iadd X d_lw_612 ?_
  refine z_sld X hX hbl hbA (lw_in hi0 hi1 (k := 1) (by decide) (by decide)) d_lw_613 (v := xs (i + 1).toNatClampNeg) rfl ?_
  refine z_aload_n X d_lw_614 rfl 0 rfl ?_
  refine z_iload X d_lw_615 4 rfl ?_
  refine z_iconst X d_lw_617 (v := 2) (by decide) ?_
  refine z_iadd X d_lw_618 ?_
  refine z_sld X hX hbl hbA (lw_in hi0 hi1 (k := 2) (by decide) (by decide)) d_lw_619 (v := xs (i + 2).toNatClampNeg) rfl ?_
  refine z_aload_n X d_lw_620 rfl 0 rfl ?_
  refine z_iload X d_lw_621 4 rfl ?_
  refine z_iconst X d_lw_623 (v := 3) (by decide) ?_
  refine z_iadd X d_lw_624 ?_
  refine z_sld X hX hbl hbA (lw_in hi0 hi1 (k := 3) (by decide) (by decide)) d_lw_625 (v := xs (i + 3).toNatClampNeg) rfl ?_
  refine mx_callG (rm := { frames := 2, cells := 0, slots := 0, locals := 47 }) (m0 := C_X11_think_0.2.2.2.2.1) (Ψ := (fun r w1 => (∃ v : Int32, r = some (.int v)) ∧ CQ G w1 18 4 (mMx tX9 (xs (i + 1).toNatClampNeg) (xs (i + 2).toNatClampNeg) (xs (i + 3).toNatClampNeg)) ∧ CQ G w1 19 4 (mMy tY9 (xs (i + 1).toNatClampNeg) (xs (i + 2).toNatClampNeg) (xs (i + 3).toNatClampNeg)))) (wa := wx') (rest := []) (As := [.int (xs (i + 1).toNatClampNeg), .int (xs (i + 2).toNatClampNeg), .int (xs (i + 3).toNatClampNeg)]) X k_L_70 (fun ad hW => ac_tkm l G hW t2 t3) ⟨rfl, rfl⟩ hy d_lw_626 ⟨by decide, by decide⟩ ⟨hc, hs⟩ rfl rfl (Nat.le_of_ble_eq_true rfl) rfl (fun r wm' hz2 hy' hfm => ?_)
  obtain ⟨v2, rfl⟩ := hz2.1
  obtain ⟨ev0, hM'⟩ := (⟨trivial, RelTh.set hz.2 hz2.2.1 hz2.2.2 l1 l2⟩ : True ∧ RelTh G wx' wm')
  have hR' : RelQ G wx' wm' := RelQ.of (hR.m.keep hfx hfm (by decide)) (hR.a.keep hfx hfm (by decide)) (hR.d.keep hfx hfm (by decide)) (hR.c.keep hfx hfm (by decide)) (hR.x.keep hfx hfm (by decide)) (hR.b.keep hfx hfm (by decide)) (hR.h.keep hfx hfm (by decide)) (hM') (hR.k.keep hfx hfm (by decide))
  refine z_pop X d_lw_629 rfl ?_
  refine z_goto X d_lw_630 (tgt := 2192) (by decide) ?_
  exact hK wx' wm' hx' hl' hy' hR'
theorem lc_10 (X : ZC p s m #[Value.ref b] meth c code 8 RL G (fun q : Nat => s.heap.size ≤ q) ret nm) (hX : va_X b L xs s s.heap) (hbl : b < s.heap.size) (hbA : ¬ s.heap.size ≤ b) (hi0 : 0 ≤ i.toInt) (hi1 : i.toInt + 10 ≤ (L : Int) ∧ L ≤ 5120) (hx : CWx G x wx) (hy : MWx G y wm) (hR : RelQ G wx wm) (hc : kc ≤ room_1.cells) (hs : ks ≤ room_1.slots) (hK : ∀ wx' wm', CWx G x wx' → wx'.length = wx.length → MWx G y wm' → RelQ G wx' wm' → Z p l e room_1 s m #[Value.ref b] below meth c 8 G (fun q : Nat => s.heap.size ≤ q) (lw_Z below #[Value.ref b] s) 2192 (lv5 b x y o i) [] (wx' ++ wm' ++ [(o, aJ G 1 f)]) kc ks) : Z p l e room_1 s m #[Value.ref b] below meth c 8 G (fun q : Nat => s.heap.size ≤ q) (lw_Z below #[Value.ref b] s) 633 (lv5 b x y o i) [] (wx ++ wm ++ [(o, aJ G 1 f)]) kc ks := by
  refine z_aload_n X d_lw_633 rfl 1 rfl ?_
  refine z_aload_n X d_lw_634 rfl 0 rfl ?_
  refine z_iload X d_lw_635 4 rfl ?_
  refine z_iconst X d_lw_637 (v := 1) (by decide) ?_
  refine z_iadd X d_lw_638 ?_
  refine z_sld X hX hbl hbA (lw_in hi0 hi1 (k := 1) (by decide) (by decide)) d_lw_639 (v := xs (i + 1).toNatClampNeg) rfl ?_
  refine z_aload_n X d_lw_640 rfl 0 rfl ?_
  refine z_iload X d_lw_641 4 rfl ?_
  refine z_iconst X d_lw_643 (v := 2) (by decide) ?_
  refine z_iadd X d_lw_644 ?_
  refine z_sld X hX hbl hbA (lw_in hi0 hi1 (k := 2) (by decide) (by decide)) d_lw_645 (v := xs (i + 2).toNatClampNeg) rfl ?_
  rw [List.append_assoc]
  refine cx_callF (k := 0) (rest := []) (As := [.int (xs (i + 1).toNatClampNeg), .int (xs (i + 2).toNatClampNeg)]) (μ := (fun k => ((Value.ref x :: [.int (xs (i + 1).toNatClampNeg), .int (xs (i + 2).toNatClampNeg)])[k]?).getD .null)) X k_L_71 (ac_X10_pound_0 l G) (by decide) (by decide) (by decide) hx (fun ad w0 he => pre_mu (C := C_X10_pound_0) (ts := [tI0, tI0]) (As := [.int (xs (i + 1).toNatClampNeg), .int (xs (i + 2).toNatClampNeg)]) rfl rfl rfl rfl ⟨fun _ => vty_i0 _, fun _ => vty_i0 _, trivial⟩ ad w0 he) rfl d_lw_646 ⟨by decide, by decide⟩ ⟨hc, hs⟩ rfl rfl (by decide) rfl (fun r wx' hr hx' hl' hfx => ?_)
  rw [← List.append_assoc]
  rcases hr with ⟨h, -⟩ | ⟨-, v, rfl⟩ | ⟨h, -⟩
  all_goals first | (exact absurd h (by decide)) | skip
  refine z_pop X d_lw_649 rfl ?_
  refine z_aload_n X d_lw_650 rfl 2 rfl ?_
  refine z_aload_n X d_lw_651 rfl 0 rfl ?_
  refine z_iload X d_lw_652 4 rfl ?_
  refine z_iconst X d_lw_654 (v := 1) (by decide) ?_
  refine z_iadd X d_lw_655 ?_
  refine z_sld X hX hbl hbA (lw_in hi0 hi1 (k := 1) (by decide) (by decide)) d_lw_656 (v := xs (i + 1).toNatClampNeg) rfl ?_
  refine z_aload_n X d_lw_657 rfl 0 rfl ?_
  refine z_iload X d_lw_658 4 rfl ?_
  refine z_iconst X d_lw_660 (v := 2) (by decide) ?_
  refine z_iadd X d_lw_661 ?_
  refine z_sld X hX hbl hbA (lw_in hi0 hi1 (k := 2) (by decide) (by decide)) d_lw_662 (v := xs (i + 2).toNatClampNeg) rfl ?_
  refine mx_callF (k := 0) (wa := wx') (rest := []) (As := [.int (xs (i + 1).toNatClampNeg), .int (xs (i + 2).toNatClampNeg)]) (μ := (fun k => ((Value.ref y :: [.int (xs (i + 1).toNatClampNeg), .int (xs (i + 2).toNatClampNeg)])[k]?).getD .null)) X k_L_75 (ac_X11_pound_0 l G) (by decide) (by decide) hy (fun ad w0 he => pre_mu (C := C_X11_pound_0) (ts := [tI0, tI0]) (As := [.int (xs (i + 1).toNatClampNeg), .int (xs (i + 2).toNatClampNeg)]) rfl rfl rfl rfl ⟨fun _ => vty_i0 _, fun _ => vty_i0 _, trivial⟩ ad w0 he) rfl d_lw_663 ⟨by decide, by decide⟩ ⟨hc, hs⟩ rfl rfl (Nat.le_of_ble_eq_true rfl) rfl (fun r wm' hr hy' hfm => ?_)
  rcases hr with ⟨h, -⟩ | ⟨-, v, rfl⟩ | ⟨h, -⟩
  all_goals first | (exact absurd h (by decide)) | skip
  refine z_pop X d_lw_666 rfl ?_
  refine z_goto X d_lw_667 (tgt := 2192) (by decide) ?_
  exact hK wx' wm' hx' hl' hy' (RelQ.of (hR.m.keep hfx hfm (by decide)) (hR.a.keep hfx hfm (by decide)) (hR.d.keep hfx hfm (by decide)) (hR.c.keep hfx hfm (by decide)) (hR.x.keep hfx hfm (by decide)) (hR.b.keep hfx hfm (by decide)) (hR.h.keep hfx hfm (by decide)) (hR.t.keep hfx hfm (by decide)) (hR.k.keep hfx hfm (by decide)))
theorem lc_11 (X : ZC p s m #[Value.ref b] meth c code 8 RL G (fun q : Nat => s.heap.size ≤ q) ret nm) (hX : va_X b L xs s s.heap) (hbl : b < s.heap.size) (hbA : ¬ s.heap.size ≤ b) (hi0 : 0 ≤ i.toInt) (hi1 : i.toInt + 10 ≤ (L : Int) ∧ L ≤ 5120) (hx : CWx G x wx) (hy : MWx G y wm) (hR : RelQ G wx wm) (hc : kc ≤ room_1.cells) (hs : ks ≤ room_1.slots) (hK : ∀ wx' wm', CWx G x wx' → wx'.length = wx.length → MWx G y wm' → RelQ G wx' wm' → Z p l e room_1 s m #[Value.ref b] below meth c 8 G (fun q : Nat => s.heap.size ≤ q) (lw_Z below #[Value.ref b] s) 2192 (lv5 b x y o i) [] (wx' ++ wm' ++ [(o, aJ G 1 f)]) kc ks) : Z p l e room_1 s m #[Value.ref b] below meth c 8 G (fun q : Nat => s.heap.size ≤ q) (lw_Z below #[Value.ref b] s) 670 (lv5 b x y o i) [] (wx ++ wm ++ [(o, aJ G 1 f)]) kc ks := by
  refine z_aload_n X d_lw_670 rfl 1 rfl ?_
  refine z_aload_n X d_lw_671 rfl 0 rfl ?_
  refine z_iload X d_lw_672 4 rfl ?_
  refine z_iconst X d_lw_674 (v := 1) (by decide) ?_
  refine z_iadd X d_lw_675 ?_
  refine z_sld X hX hbl hbA (lw_in hi0 hi1 (k := 1) (by decide) (by decide)) d_lw_676 (v := xs (i + 1).toNatClampNeg) rfl ?_
  refine z_aload_n X d_lw_677 rfl 0 rfl ?_
  refine z_iload X d_lw_678 4 rfl ?_
  refine z_iconst X d_lw_680 (v := 2) (by decide) ?_
  refine z_iadd X d_lw_681 ?_
  refine z_sld X hX hbl hbA (lw_in hi0 hi1 (k := 2) (by decide) (by decide)) d_lw_682 (v := xs (i + 2).toNatClampNeg) rfl ?_
  rw [List.append_assoc]
  refine cx_callF (k := 0) (rest := []) (As := [.int (xs (i + 1).toNatClampNeg), .int (xs (i + 2).toNatClampNeg)]) (μ := (fun k => ((Value.ref x :: [.int (xs (i + 1).toNatClampNeg), .int (xs (i + 2).toNatClampNeg)])[k]?).getD .null)) X k_L_76 (ac_X10_feel_0 l G) (by decide) (by decide) (by decide) hx (fun ad w0 he => pre_mu (C := C_X10_feel_0) (ts := [tI0, tI0]) (As := [.int (xs (i + 1).toNatClampNeg), .int (xs (i + 2).toNatClampNeg)]) rfl rfl rfl rfl ⟨fun _ => vty_i0 _, fun _ => vty_i0 _, trivial⟩ ad w0 he) rfl d_lw_683 ⟨by decide, by decide⟩ ⟨hc, hs⟩ rfl rfl (by decide) rfl (fun r wx' hr hx' hl' hfx => ?_)
  rw [← List.append_assoc]
  rcases hr with ⟨h, -⟩ | ⟨-, v, rfl⟩ | ⟨h, -⟩
  all_goals first | (exact absurd h (by decide)) | skip
  refine z_pop X d_lw_686 rfl ?_
  refine z_aload_n X d_lw_687 rfl 2 rfl ?_
  refine z_aload_n X d_lw_688 rfl 0 rfl ?_
  refine z_iload X d_lw_689 4 rfl ?_
  refine z_iconst X d_lw_691 (v := 1) (by decide) ?_
  refine z_iadd X d_lw_692 ?_
  refine z_sld X hX hbl hbA (lw_in hi0 hi1 (k := 1) (by decide) (by decide)) d_lw_693 (v := xs (i + 1).toNatClampNeg) rfl ?_
  refine z_aload_n X d_lw_694 rfl 0 rfl ?_
  refine z_iload X d_lw_695 4 rfl ?_
  refine z_iconst X d_lw_697 (v := 2) (by decide) ?_
  refine z_iadd X d_lw_698 ?_
  refine z_sld X hX hbl hbA (lw_in hi0 hi1 (k := 2) (by decide) (by decide)) d_lw_699 (v := xs (i + 2).toNatClampNeg) rfl ?_
  refine mx_callF (k := 0) (wa := wx') (rest := []) (As := [.int (xs (i + 1).toNatClampNeg), .int (xs (i + 2).toNatClampNeg)]) (μ := (fun k => ((Value.ref y :: [.int (xs (i + 1).toNatClampNeg), .int (xs (i + 2).toNatClampNeg)])[k]?).getD .null)) X k_L_79 (ac_X11_feel_0 l G) (by decide) (by decide) hy (fun ad w0 he => pre_mu (C := C_X11_feel_0) (ts := [tI0, tI0]) (As := [.int (xs (i + 1).toNatClampNeg), .int (xs (i + 2).toNatClampNeg)]) rfl rfl rfl rfl ⟨fun _ => vty_i0 _, fun _ => vty_i0 _, trivial⟩ ad w0 he) rfl d_lw_700 ⟨by decide, by decide⟩ ⟨hc, hs⟩ rfl rfl (Nat.le_of_ble_eq_true rfl) rfl (fun r wm' hr hy' hfm => ?_)
  rcases hr with ⟨h, -⟩ | ⟨-, v, rfl⟩ | ⟨h, -⟩
  all_goals first | (exact absurd h (by decide)) | skip
  refine z_pop X d_lw_703 rfl ?_
  refine z_goto X d_lw_704 (tgt := 2192) (by decide) ?_
  exact hK wx' wm' hx' hl' hy' (RelQ.of (hR.m.keep hfx hfm (by decide)) (hR.a.keep hfx hfm (by decide)) (hR.d.keep hfx hfm (by decide)) (hR.c.keep hfx hfm (by decide)) (hR.x.keep hfx hfm (by decide)) (hR.b.keep hfx hfm (by decide)) (hR.h.keep hfx hfm (by decide)) (hR.t.keep hfx hfm (by decide)) (hR.k.keep hfx hfm (by decide)))
theorem lc_12 (X : ZC p s m #[Value.ref b] meth c code 8 RL G (fun q : Nat => s.heap.size ≤ q) ret nm) (hX : va_X b L xs s s.heap) (hbl : b < s.heap.size) (hbA : ¬ s.heap.size ≤ b) (hi0 : 0 ≤ i.toInt) (hi1 : i.toInt + 10 ≤ (L : Int) ∧ L ≤ 5120) (hx : CWx G x wx) (hy : MWx G y wm) (hR : RelQ G wx wm) (hc : kc ≤ room_1.cells) (hs : ks ≤ room_1.slots) (hK : ∀ wx' wm', CWx G x wx' → wx'.length = wx.length → MWx G y wm' → RelQ G wx' wm' → Z p l e room_1 s m #[Value.ref b] below meth c 8 G (fun q : Nat => s.heap.size ≤ q) (lw_Z below #[Value.ref b] s) 2192 (lv5 b x y o i) [] (wx' ++ wm' ++ [(o, aJ G 1 f)]) kc ks) : Z p l e room_1 s m #[Value.ref b] below meth c 8 G (fun q : Nat => s.heap.size ≤ q) (lw_Z below #[Value.ref b] s) 707 (lv5 b x y o i) [] (wx ++ wm ++ [(o, aJ G 1 f)]) kc ks := by
  refine z_aload_n X d_lw_707 rfl 1 rfl ?_
  refine z_aload_n X d_lw_708 rfl 0 rfl ?_
  refine z_iload X d_lw_709 4 rfl ?_
  refine z_iconst X d_lw_711 (v := 1) (by decide) ?_
  refine z_iadd X d_lw_712 ?_
  refine z_sld X hX hbl hbA (lw_in hi0 hi1 (k := 1) (by decide) (by decide)) d_lw_713 (v := xs (i + 1).toNatClampNeg) rfl ?_
  refine z_aload_n X d_lw_714 rfl 0 rfl ?_
  refine z_iload X d_lw_715 4 rfl ?_
  refine z_iconst X d_lw_717 (v := 2) (by decide) ?_
  refine z_iadd X d_lw_718 ?_
  refine z_sld X hX hbl hbA (lw_in hi0 hi1 (k := 2) (by decide) (by decide)) d_lw_719 (v := xs (i + 2).toNatClampNeg) rfl ?_
  rw [List.append_assoc]
  refine cx_callF (k := 0) (rest := []) (As := [.int (xs (i + 1).toNatClampNeg), .int (xs (i + 2).toNatClampNeg)]) (μ := (fun k => ((Value.ref x :: [.int (xs (i + 1).toNatClampNeg), .int (xs (i + 2).toNatClampNeg)])[k]?).getD .null)) X k_L_80 (ac_X10_hums_0 l G) (by decide) (by decide) (by decide) hx (fun ad w0 he => pre_mu (C := C_X10_hums_0) (ts := [tI0, tI0]) (As := [.int (xs (i + 1).toNatClampNeg), .int (xs (i + 2).toNatClampNeg)]) rfl rfl rfl rfl ⟨fun _ => vty_i0 _, fun _ => vty_i0 _, trivial⟩ ad w0 he) rfl d_lw_720 ⟨by decide, by decide⟩ ⟨hc, hs⟩ rfl rfl (by decide) rfl (fun r wx' hr hx' hl' hfx => ?_)
  rw [← List.append_assoc]
  rcases hr with ⟨h, -⟩ | ⟨-, v, rfl⟩ | ⟨h, -⟩
  all_goals first | (exact absurd h (by decide)) | skip
  refine z_pop X d_lw_723 rfl ?_
  refine z_aload_n X d_lw_724 rfl 2 rfl ?_
  refine z_aload_n X d_lw_725 rfl 0 rfl ?_
  refine z_iload X d_lw_726 4 rfl ?_
  refine z_iconst X d_lw_728 (v := 1) (by decide) ?_
  refine z_iadd X d_lw_729 ?_
  refine z_sld X hX hbl hbA (lw_in hi0 hi1 (k := 1) (by decide) (by decide)) d_lw_730 (v := xs (i + 1).toNatClampNeg) rfl ?_
  refine z_aload_n X d_lw_731 rfl 0 rfl ?_
  refine z_iload X d_lw_732 4 rfl ?_
  refine z_iconst X d_lw_734 (v := 2) (by decide) ?_
  refine z_iadd X d_lw_735 ?_
  refine z_sld X hX hbl hbA (lw_in hi0 hi1 (k := 2) (by decide) (by decide)) d_lw_736 (v := xs (i + 2).toNatClampNeg) rfl ?_
  refine mx_callF (k := 0) (wa := wx') (rest := []) (As := [.int (xs (i + 1).toNatClampNeg), .int (xs (i + 2).toNatClampNeg)]) (μ := (fun k => ((Value.ref y :: [.int (xs (i + 1).toNatClampNeg), .int (xs (i + 2).toNatClampNeg)])[k]?).getD .null)) X k_L_83 (ac_X11_hums_0 l G) (by decide) (by decide) hy (fun ad w0 he => pre_mu (C := C_X11_hums_0) (ts := [tI0, tI0]) (As := [.int (xs (i + 1).toNatClampNeg), .int (xs (i + 2).toNatClampNeg)]) rfl rfl rfl rfl ⟨fun _ => vty_i0 _, fun _ => vty_i0 _, trivial⟩ ad w0 he) rfl d_lw_737 ⟨by decide, by decide⟩ ⟨hc, hs⟩ rfl rfl (Nat.le_of_ble_eq_true rfl) rfl (fun r wm' hr hy' hfm => ?_)
  rcases hr with ⟨h, -⟩ | ⟨-, v, rfl⟩ | ⟨h, -⟩
  all_goals first | (exact absurd h (by decide)) | skip
  refine z_pop X d_lw_740 rfl ?_
  refine z_goto X d_lw_741 (tgt := 2192) (by decide) ?_
  exact hK wx' wm' hx' hl' hy' (RelQ.of (hR.m.keep hfx hfm (by decide)) (hR.a.keep hfx hfm (by decide)) (hR.d.keep hfx hfm (by decide)) (hR.c.keep hfx hfm (by decide)) (hR.x.keep hfx hfm (by decide)) (hR.b.keep hfx hfm (by decide)) (hR.h.keep hfx hfm (by decide)) (hR.t.keep hfx hfm (by decide)) (hR.k.keep hfx hfm (by decide)))
theorem lc_13 (X : ZC p s m #[Value.ref b] meth c code 8 RL G (fun q : Nat => s.heap.size ≤ q) ret nm) (hX : va_X b L xs s s.heap) (hbl : b < s.heap.size) (hbA : ¬ s.heap.size ≤ b) (hi0 : 0 ≤ i.toInt) (hi1 : i.toInt + 10 ≤ (L : Int) ∧ L ≤ 5120) (hx : CWx G x wx) (hy : MWx G y wm) (hR : RelQ G wx wm) (hc : kc ≤ room_1.cells) (hs : ks ≤ room_1.slots) (hK : ∀ wx' wm', CWx G x wx' → wx'.length = wx.length → MWx G y wm' → RelQ G wx' wm' → Z p l e room_1 s m #[Value.ref b] below meth c 8 G (fun q : Nat => s.heap.size ≤ q) (lw_Z below #[Value.ref b] s) 2192 (lv5 b x y o i) [] (wx' ++ wm' ++ [(o, aJ G 1 f)]) kc ks) : Z p l e room_1 s m #[Value.ref b] below meth c 8 G (fun q : Nat => s.heap.size ≤ q) (lw_Z below #[Value.ref b] s) 744 (lv5 b x y o i) [] (wx ++ wm ++ [(o, aJ G 1 f)]) kc ks := by
  refine z_aload_n X d_lw_744 rfl 1 rfl ?_
  refine z_aload_n X d_lw_745 rfl 0 rfl ?_
  refine z_iload X d_lw_746 4 rfl ?_
  refine z_iconst X d_lw_748 (v := 1) (by decide) ?_
  refine z_iadd X d_lw_749 ?_
  refine z_sld X hX hbl hbA (lw_in hi0 hi1 (k := 1) (by decide) (by decide)) d_lw_750 (v := xs (i + 1).toNatClampNeg) rfl ?_
  refine z_aload_n X d_lw_751 rfl 0 rfl ?_
  refine z_iload X d_lw_752 4 rfl ?_
  refine z_iconst X d_lw_754 (v := 2) (by decide) ?_
  refine z_iadd X d_lw_755 ?_
  refine z_sld X hX hbl hbA (lw_in hi0 hi1 (k := 2) (by decide) (by decide)) d_lw_756 (v := xs (i + 2).toNatClampNeg) rfl ?_
  refine z_aload_n X d_lw_757 rfl 0 rfl ?_
  refine z_iload X d_lw_758 4 rfl ?_
  refine z_iconst X d_lw_760 (v := 3) (by decide) ?_
  refine z_iadd X d_lw_761 ?_
  refine z_sld X hX hbl hbA (lw_in hi0 hi1 (k := 3) (by decide) (by decide)) d_lw_762 (v := xs (i + 3).toNatClampNeg) rfl ?_
  refine z_aload_n X d_lw_763 rfl 0 rfl ?_
  refine z_iload X d_lw_764 4 rfl ?_
  refine z_iconst X d_lw_766 (v := 4) (by decide) ?_
  refine z_iadd X d_lw_767 ?_
  refine z_sld X hX hbl hbA (lw_in hi0 hi1 (k := 4) (by decide) (by decide)) d_lw_768 (v := xs (i + 4).toNatClampNeg) rfl ?_
  rw [List.append_assoc]
  refine cx_callF (k := 0) (rest := []) (As := [.int (xs (i + 1).toNatClampNeg), .int (xs (i + 2).toNatClampNeg), .int (xs (i + 3).toNatClampNeg), .int (xs (i + 4).toNatClampNeg)]) (μ := (fun k => ((Value.ref x :: [.int (xs (i + 1).toNatClampNeg), .int (xs (i + 2).toNatClampNeg), .int (xs (i + 3).toNatClampNeg), .int (xs (i + 4).toNatClampNeg)])[k]?).getD .null)) X k_L_84 (ac_X10_whole_0 l G) (by decide) (by decide) (by decide) hx (fun ad w0 he => pre_mu (C := C_X10_whole_0) (ts := [tI0, tI0, tI0, tI0]) (As := [.int (xs (i + 1).toNatClampNeg), .int (xs (i + 2).toNatClampNeg), .int (xs (i + 3).toNatClampNeg), .int (xs (i + 4).toNatClampNeg)]) rfl rfl rfl rfl ⟨fun _ => vty_i0 _, fun _ => vty_i0 _, fun _ => vty_i0 _, fun _ => vty_i0 _, trivial⟩ ad w0 he) rfl d_lw_769 ⟨by decide, by decide⟩ ⟨hc, hs⟩ rfl rfl (by decide) rfl (fun r wx' hr hx' hl' hfx => ?_)
  rw [← List.append_assoc]
  rcases hr with ⟨h, -⟩ | ⟨-, v, rfl⟩ | ⟨h, -⟩
  all_goals first | (exact absurd h (by decide)) | skip
  refine z_pop X d_lw_772 rfl ?_
  refine z_aload_n X d_lw_773 rfl 2 rfl ?_
  refine z_aload_n X d_lw_774 rfl 0 rfl ?_
  refine z_iload X d_lw_775 4 rfl ?_
  refine z_iconst X d_lw_777 (v := 1) (by decide) ?_
  refine z_iadd X d_lw_778 ?_
  refine z_sld X hX hbl hbA (lw_in hi0 hi1 (k := 1) (by decide) (by decide)) d_lw_779 (v := xs (i + 1).toNatClampNeg) rfl ?_
  refine z_aload_n X d_lw_780 rfl 0 rfl ?_
  refine z_iload X d_lw_781 4 rfl ?_
  refine z_iconst X d_lw_783 (v := 2) (by decide) ?_
  refine z_iadd X d_lw_784 ?_
  refine z_sld X hX hbl hbA (lw_in hi0 hi1 (k := 2) (by decide) (by decide)) d_lw_785 (v := xs (i + 2).toNatClampNeg) rfl ?_
  refine z_aload_n X d_lw_786 rfl 0 rfl ?_
  refine z_iload X d_lw_787 4 rfl ?_
  refine z_iconst X d_lw_789 (v := 3) (by decide) ?_
  refine z_iadd X d_lw_790 ?_
  refine z_sld X hX hbl hbA (lw_in hi0 hi1 (k := 3) (by decide) (by decide)) d_lw_791 (v := xs (i + 3).toNatClampNeg) rfl ?_
  refine z_aload_n X d_lw_792 rfl 0 rfl ?_
  refine z_iload X d_lw_793 4 rfl ?_
  refine z_iconst X d_lw_795 (v := 4) (by decide) ?_
  refine z_iadd X d_lw_796 ?_
  refine z_sld X hX hbl hbA (lw_in hi0 hi1 (k := 4) (by decide) (by decide)) d_lw_797 (v := xs (i + 4).toNatClampNeg) rfl ?_
  refine mx_callF (k := 0) (wa := wx') (rest := []) (As := [.int (xs (i + 1).toNatClampNeg), .int (xs (i + 2).toNatClampNeg), .int (xs (i + 3).toNatClampNeg), .int (xs (i + 4).toNatClampNeg)]) (μ := (fun k => ((Value.ref y :: [.int (xs (i + 1).toNatClampNeg), .int (xs (i + 2).toNatClampNeg), .int (xs (i + 3).toNatClampNeg), .int (xs (i + 4).toNatClampNeg)])[k]?).getD .null)) X k_L_87 (ac_X11_whole_0 l G) (by decide) (by decide) hy (fun ad w0 he => pre_mu (C := C_X11_whole_0) (ts := [tI0, tI0, tI0, tI0]) (As := [.int (xs (i + 1).toNatClampNeg), .int (xs (i + 2).toNatClampNeg), .int (xs (i + 3).toNatClampNeg), .int (xs (i + 4).toNatClampNeg)]) rfl rfl rfl rfl ⟨fun _ => vty_i0 _, fun _ => vty_i0 _, fun _ => vty_i0 _, fun _ => vty_i0 _, trivial⟩ ad w0 he) rfl d_lw_798 ⟨by decide, by decide⟩ ⟨hc, hs⟩ rfl rfl (Nat.le_of_ble_eq_true rfl) rfl (fun r wm' hr hy' hfm => ?_)
  rcases hr with ⟨h, -⟩ | ⟨-, v, rfl⟩ | ⟨h, -⟩
  all_goals first | (exact absurd h (by decide)) | skip
  refine z_pop X d_lw_801 rfl ?_
  refine z_goto X d_lw_802 (tgt := 2192) (by decide) ?_
  exact hK wx' wm' hx' hl' hy' (RelQ.of (hR.m.keep hfx hfm (by decide)) (hR.a.keep hfx hfm (by decide)) (hR.d.keep hfx hfm (by decide)) (hR.c.keep hfx hfm (by decide)) (hR.x.keep hfx hfm (by decide)) (hR.b.keep hfx hfm (by decide)) (hR.h.keep hfx hfm (by decide)) (hR.t.keep hfx hfm (by decide)) (hR.k.keep hfx hfm (by decide)))
theorem lc_14 (X : ZC p s m #[Value.ref b] meth c code 8 RL G (fun q : Nat => s.heap.size ≤ q) ret nm) (hX : va_X b L xs s s.heap) (hbl : b < s.heap.size) (hbA : ¬ s.heap.size ≤ b) (hi0 : 0 ≤ i.toInt) (hi1 : i.toInt + 10 ≤ (L : Int) ∧ L ≤ 5120) (hx : CWx G x wx) (hy : MWx G y wm) (hR : RelQ G wx wm) (hc : kc ≤ room_1.cells) (hs : ks ≤ room_1.slots) (hK : ∀ wx' wm', CWx G x wx' → wx'.length = wx.length → MWx G y wm' → RelQ G wx' wm' → Z p l e room_1 s m #[Value.ref b] below meth c 8 G (fun q : Nat => s.heap.size ≤ q) (lw_Z below #[Value.ref b] s) 2192 (lv5 b x y o i) [] (wx' ++ wm' ++ [(o, aJ G 1 f)]) kc ks) : Z p l e room_1 s m #[Value.ref b] below meth c 8 G (fun q : Nat => s.heap.size ≤ q) (lw_Z below #[Value.ref b] s) 805 (lv5 b x y o i) [] (wx ++ wm ++ [(o, aJ G 1 f)]) kc ks := by
  refine z_aload_n X d_lw_805 rfl 1 rfl ?_
  refine z_aload_n X d_lw_806 rfl 0 rfl ?_
  refine z_iload X d_lw_807 4 rfl ?_
  refine z_iconst X d_lw_809 (v := 1) (by decide) ?_
  refine z_iadd X d_lw_810 ?_
  refine z_sld X hX hbl hbA (lw_in hi0 hi1 (k := 1) (by decide) (by decide)) d_lw_811 (v := xs (i + 1).toNatClampNeg) rfl ?_
  refine z_aload_n X d_lw_812 rfl 0 rfl ?_
  refine z_iload X d_lw_813 4 rfl ?_
  refine z_iconst X d_lw_815 (v := 2) (by decide) ?_
  refine z_iadd X d_lw_816 ?_
  refine z_sld X hX hbl hbA (lw_in hi0 hi1 (k := 2) (by decide) (by decide)) d_lw_817 (v := xs (i + 2).toNatClampNeg) rfl ?_
  refine z_aload_n X d_lw_818 rfl 0 rfl ?_
  refine z_iload X d_lw_819 4 rfl ?_
  refine z_iconst X d_lw_821 (v := 3) (by decide) ?_
  refine z_iadd X d_lw_822 ?_
  refine z_sld X hX hbl hbA (lw_in hi0 hi1 (k := 3) (by decide) (by decide)) d_lw_823 (v := xs (i + 3).toNatClampNeg) rfl ?_
  rw [List.append_assoc]
  refine cx_callF (k := 0) (rest := []) (As := [.int (xs (i + 1).toNatClampNeg), .int (xs (i + 2).toNatClampNeg), .int (xs (i + 3).toNatClampNeg)]) (μ := (fun k => ((Value.ref x :: [.int (xs (i + 1).toNatClampNeg), .int (xs (i + 2).toNatClampNeg), .int (xs (i + 3).toNatClampNeg)])[k]?).getD .null)) X k_L_88 (ac_X10_much_0 l G) (by decide) (by decide) (by decide) hx (fun ad w0 he => pre_mu (C := C_X10_much_0) (ts := [tI0, tI0, tI0]) (As := [.int (xs (i + 1).toNatClampNeg), .int (xs (i + 2).toNatClampNeg), .int (xs (i + 3).toNatClampNeg)]) rfl rfl rfl rfl ⟨fun _ => vty_i0 _, fun _ => vty_i0 _, fun _ => vty_i0 _, trivial⟩ ad w0 he) rfl d_lw_824 ⟨by decide, by decide⟩ ⟨hc, hs⟩ rfl rfl (by decide) rfl (fun r wx' hr hx' hl' hfx => ?_)
  rw [← List.append_assoc]
  rcases hr with ⟨h, -⟩ | ⟨-, v, rfl⟩ | ⟨h, -⟩
  all_goals first | (exact absurd h (by decide)) | skip
  refine z_pop X d_lw_827 rfl ?_
  refine z_aload_n X d_lw_828 rfl 2 rfl ?_
  refine z_aload_n X d_lw_829 rfl 0 rfl ?_
  refine z_iload X d_lw_830 4 rfl ?_
  refine z_iconst X d_lw_832 (v := 1) (by decide) ?_
  refine z_iadd X d_lw_833 ?_
  refine z_sld X hX hbl hbA (lw_in hi0 hi1 (k := 1) (by decide) (by decide)) d_lw_834 (v := xs (i + 1).toNatClampNeg) rfl ?_
  refine z_aload_n X d_lw_835 rfl 0 rfl ?_
  refine z_iload X d_lw_836 4 rfl ?_
  refine z_iconst X d_lw_838 (v := 2) (by decide) ?_
  refine z_iadd X d_lw_839 ?_
  refine z_sld X hX hbl hbA (lw_in hi0 hi1 (k := 2) (by decide) (by decide)) d_lw_840 (v := xs (i + 2).toNatClampNeg) rfl ?_
  refine z_aload_n X d_lw_841 rfl 0 rfl ?_
  refine z_iload X d_lw_842 4 rfl ?_
  refine z_iconst X d_lw_844 (v := 3) (by decide) ?_
  refine z_iadd X d_lw_845 ?_
  refine z_sld X hX hbl hbA (lw_in hi0 hi1 (k := 3) (by decide) (by decide)) d_lw_846 (v := xs (i + 3).toNatClampNeg) rfl ?_
  refine mx_callF (k := 0) (wa := wx') (rest := []) (As := [.int (xs (i + 1).toNatClampNeg), .int (xs (i + 2).toNatClampNeg), .int (xs (i + 3).toNatClampNeg)]) (μ := (fun k => ((Value.ref y :: [.int (xs (i + 1).toNatClampNeg), .int (xs (i + 2).toNatClampNeg), .int (xs (i + 3).toNatClampNeg)])[k]?).getD .null)) X k_L_91 (ac_X11_much_0 l G) (by decide) (by decide) hy (fun ad w0 he => pre_mu (C := C_X11_much_0) (ts := [tI0, tI0, tI0]) (As := [.int (xs (i + 1).toNatClampNeg), .int (xs (i + 2).toNatClampNeg), .int (xs (i + 3).toNatClampNeg)]) rfl rfl rfl rfl ⟨fun _ => vty_i0 _, fun _ => vty_i0 _, fun _ => vty_i0 _, trivial⟩ ad w0 he) rfl d_lw_847 ⟨by decide, by decide⟩ ⟨hc, hs⟩ rfl rfl (Nat.le_of_ble_eq_true rfl) rfl (fun r wm' hr hy' hfm => ?_)
  rcases hr with ⟨h, -⟩ | ⟨-, v, rfl⟩ | ⟨h, -⟩
  all_goals first | (exact absurd h (by decide)) | skip
  refine z_pop X d_lw_850 rfl ?_
  refine z_goto X d_lw_851 (tgt := 2192) (by decide) ?_
  exact hK wx' wm' hx' hl' hy' (RelQ.of (hR.m.keep hfx hfm (by decide)) (hR.a.keep hfx hfm (by decide)) (hR.d.keep hfx hfm (by decide)) (hR.c.keep hfx hfm (by decide)) (hR.x.keep hfx hfm (by decide)) (hR.b.keep hfx hfm (by decide)) (hR.h.keep hfx hfm (by decide)) (hR.t.keep hfx hfm (by decide)) (hR.k.keep hfx hfm (by decide)))
theorem lc_15 (X : ZC p s m #[Value.ref b] meth c code 8 RL G (fun q : Nat => s.heap.size ≤ q) ret nm) (hX : va_X b L xs s s.heap) (hbl : b < s.heap.size) (hbA : ¬ s.heap.size ≤ b) (hi0 : 0 ≤ i.toInt) (hi1 : i.toInt + 10 ≤ (L : Int) ∧ L ≤ 5120) (hx : CWx G x wx) (hy : MWx G y wm) (hR : RelQ G wx wm) (hc : kc ≤ room_1.cells) (hs : ks ≤ room_1.slots) (hK : ∀ wx' wm', CWx G x wx' → wx'.length = wx.length → MWx G y wm' → RelQ G wx' wm' → Z p l e room_1 s m #[Value.ref b] below meth c 8 G (fun q : Nat => s.heap.size ≤ q) (lw_Z below #[Value.ref b] s) 2192 (lv5 b x y o i) [] (wx' ++ wm' ++ [(o, aJ G 1 f)]) kc ks) : Z p l e room_1 s m #[Value.ref b] below meth c 8 G (fun q : Nat => s.heap.size ≤ q) (lw_Z below #[Value.ref b] s) 854 (lv5 b x y o i) [] (wx ++ wm ++ [(o, aJ G 1 f)]) kc ks := by
  refine z_aload_n X d_lw_854 rfl 1 rfl ?_
  rw [List.append_assoc]
  refine cx_callF (k := 0) (rest := []) (As := []) (μ := (fun k => ((Value.ref x :: [])[k]?).getD .null)) X k_L_92 (ac_X10_drop_0 l G) (by decide) (by decide) (by decide) hx (fun ad w0 he => pre_mu (C := C_X10_drop_0) (ts := []) (As := []) rfl rfl rfl rfl trivial ad w0 he) rfl d_lw_855 ⟨by decide, by decide⟩ ⟨hc, hs⟩ rfl rfl (by decide) rfl (fun r wx' hr hx' hl' hfx => ?_)
  rw [← List.append_assoc]
  rcases hr with ⟨h, -⟩ | ⟨-, v, rfl⟩ | ⟨h, -⟩
  all_goals first | (exact absurd h (by decide)) | skip
  refine z_pop X d_lw_858 rfl ?_
  refine z_aload_n X d_lw_859 rfl 2 rfl ?_
  refine mx_callF (k := 0) (wa := wx') (rest := []) (As := []) (μ := (fun k => ((Value.ref y :: [])[k]?).getD .null)) X k_L_95 (ac_X11_drop_0 l G) (by decide) (by decide) hy (fun ad w0 he => pre_mu (C := C_X11_drop_0) (ts := []) (As := []) rfl rfl rfl rfl trivial ad w0 he) rfl d_lw_860 ⟨by decide, by decide⟩ ⟨hc, hs⟩ rfl rfl (Nat.le_of_ble_eq_true rfl) rfl (fun r wm' hr hy' hfm => ?_)
  rcases hr with ⟨h, -⟩ | ⟨-, v, rfl⟩ | ⟨h, -⟩
  all_goals first | (exact absurd h (by decide)) | skip
  refine z_pop X d_lw_863 rfl ?_
  refine z_goto X d_lw_864 (tgt := 2192) (by decide) ?_
  exact hK wx' wm' hx' hl' hy' (RelQ.of (hR.m.keep hfx hfm (by decide)) (hR.a.keep hfx hfm (by decide)) (hR.d.keep hfx hfm (by decide)) (hR.c.keep hfx hfm (by decide)) (hR.x.keep hfx hfm (by decide)) (hR.b.keep hfx hfm (by decide)) (hR.h.keep hfx hfm (by decide)) (hR.t.keep hfx hfm (by decide)) (hR.k.keep hfx hfm (by decide)))
theorem lc_16 (X : ZC p s m #[Value.ref b] meth c code 8 RL G (fun q : Nat => s.heap.size ≤ q) ret nm) (hX : va_X b L xs s s.heap) (hbl : b < s.heap.size) (hbA : ¬ s.heap.size ≤ b) (hi0 : 0 ≤ i.toInt) (hi1 : i.toInt + 10 ≤ (L : Int) ∧ L ≤ 5120) (hx : CWx G x wx) (hy : MWx G y wm) (hR : RelQ G wx wm) (hc : kc ≤ room_1.cells) (hs : ks ≤ room_1.slots) (hK : ∀ wx' wm', CWx G x wx' → wx'.length = wx.length → MWx G y wm' → RelQ G wx' wm' → Z p l e room_1 s m #[Value.ref b] below meth c 8 G (fun q : Nat => s.heap.size ≤ q) (lw_Z below #[Value.ref b] s) 2192 (lv5 b x y o i) [] (wx' ++ wm' ++ [(o, aJ G 1 f)]) kc ks) : Z p l e room_1 s m #[Value.ref b] below meth c 8 G (fun q : Nat => s.heap.size ≤ q) (lw_Z below #[Value.ref b] s) 867 (lv5 b x y o i) [] (wx ++ wm ++ [(o, aJ G 1 f)]) kc ks := by
  refine z_aload_n X d_lw_867 rfl 1 rfl ?_
  rw [List.append_assoc]
  refine cx_callF (k := 0) (rest := []) (As := []) (μ := (fun k => ((Value.ref x :: [])[k]?).getD .null)) X k_L_96 (ac_X10_which_0 l G) (by decide) (by decide) (by decide) hx (fun ad w0 he => pre_mu (C := C_X10_which_0) (ts := []) (As := []) rfl rfl rfl rfl trivial ad w0 he) rfl d_lw_868 ⟨by decide, by decide⟩ ⟨hc, hs⟩ rfl rfl (by decide) rfl (fun r wx' hr hx' hl' hfx => ?_)
  rw [← List.append_assoc]
  rcases hr with ⟨h, -⟩ | ⟨-, v, rfl⟩ | ⟨h, -⟩
  all_goals first | (exact absurd h (by decide)) | skip
  refine z_pop X d_lw_871 rfl ?_
  refine z_aload_n X d_lw_872 rfl 2 rfl ?_
  refine mx_callF (k := 0) (wa := wx') (rest := []) (As := []) (μ := (fun k => ((Value.ref y :: [])[k]?).getD .null)) X k_L_99 (ac_X11_which_0 l G) (by decide) (by decide) hy (fun ad w0 he => pre_mu (C := C_X11_which_0) (ts := []) (As := []) rfl rfl rfl rfl trivial ad w0 he) rfl d_lw_873 ⟨by decide, by decide⟩ ⟨hc, hs⟩ rfl rfl (Nat.le_of_ble_eq_true rfl) rfl (fun r wm' hr hy' hfm => ?_)
  rcases hr with ⟨h, -⟩ | ⟨-, v, rfl⟩ | ⟨h, -⟩
  all_goals first | (exact absurd h (by decide)) | skip
  refine z_pop X d_lw_876 rfl ?_
  refine z_goto X d_lw_877 (tgt := 2192) (by decide) ?_
  exact hK wx' wm' hx' hl' hy' (RelQ.of (hR.m.keep hfx hfm (by decide)) (hR.a.keep hfx hfm (by decide)) (hR.d.keep hfx hfm (by decide)) (hR.c.keep hfx hfm (by decide)) (hR.x.keep hfx hfm (by decide)) (hR.b.keep hfx hfm (by decide)) (hR.h.keep hfx hfm (by decide)) (hR.t.keep hfx hfm (by decide)) (hR.k.keep hfx hfm (by decide)))
end LWC
end
section
/-! the law: its cases, the relation kept -/
section LWC
variable {p : Program} {l : Launch} {e : Env} {s : State} {m : MethodId} {below : List Frame} {meth : Method} {c : Code} {G : KG} {nm : String} {b L x y o : Nat} {xs : Nat → Int32} {i : Int32} {f : Nat → Int64} {wx wm : va_W} {kc ks : Nat}
theorem lc_17 (X : ZC p s m #[Value.ref b] meth c code 8 RL G (fun q : Nat => s.heap.size ≤ q) ret nm) (hX : va_X b L xs s s.heap) (hbl : b < s.heap.size) (hbA : ¬ s.heap.size ≤ b) (hi0 : 0 ≤ i.toInt) (hi1 : i.toInt + 10 ≤ (L : Int) ∧ L ≤ 5120) (hx : CWx G x wx) (hy : MWx G y wm) (hR : RelQ G wx wm) (hc : kc ≤ room_1.cells) (hs : ks ≤ room_1.slots) (hK : ∀ wx' wm', CWx G x wx' → wx'.length = wx.length → MWx G y wm' → RelQ G wx' wm' → Z p l e room_1 s m #[Value.ref b] below meth c 8 G (fun q : Nat => s.heap.size ≤ q) (lw_Z below #[Value.ref b] s) 2192 (lv5 b x y o i) [] (wx' ++ wm' ++ [(o, aJ G 1 f)]) kc ks) : Z p l e room_1 s m #[Value.ref b] below meth c 8 G (fun q : Nat => s.heap.size ≤ q) (lw_Z below #[Value.ref b] s) 880 (lv5 b x y o i) [] (wx ++ wm ++ [(o, aJ G 1 f)]) kc ks := by
  refine z_aload_n X d_lw_880 rfl 1 rfl ?_
  rw [List.append_assoc]
  refine cx_callF (k := 0) (rest := []) (As := []) (μ := (fun k => ((Value.ref x :: [])[k]?).getD .null)) X k_L_100 (ac_X10_ends_0 l G) (by decide) (by decide) (by decide) hx (fun ad w0 he => pre_mu (C := C_X10_ends_0) (ts := []) (As := []) rfl rfl rfl rfl trivial ad w0 he) rfl d_lw_881 ⟨by decide, by decide⟩ ⟨hc, hs⟩ rfl rfl (by decide) rfl (fun r wx' hr hx' hl' hfx => ?_)
  rw [← List.append_assoc]
  rcases hr with ⟨h, -⟩ | ⟨-, v, rfl⟩ | ⟨h, -⟩
  all_goals first | (exact absurd h (by decide)) | skip
  refine z_pop X d_lw_884 rfl ?_
  refine z_aload_n X d_lw_885 rfl 2 rfl ?_
  refine mx_callF (k := 0) (wa := wx') (rest := []) (As := []) (μ := (fun k => ((Value.ref y :: [])[k]?).getD .null)) X k_L_103 (ac_X11_ends_0 l G) (by decide) (by decide) hy (fun ad w0 he => pre_mu (C := C_X11_ends_0) (ts := []) (As := []) rfl rfl rfl rfl trivial ad w0 he) rfl d_lw_886 ⟨by decide, by decide⟩ ⟨hc, hs⟩ rfl rfl (Nat.le_of_ble_eq_true rfl) rfl (fun r wm' hr hy' hfm => ?_)
  rcases hr with ⟨h, -⟩ | ⟨-, v, rfl⟩ | ⟨h, -⟩
  all_goals first | (exact absurd h (by decide)) | skip
  refine z_pop X d_lw_889 rfl ?_
  refine z_goto X d_lw_890 (tgt := 2192) (by decide) ?_
  exact hK wx' wm' hx' hl' hy' (RelQ.of (hR.m.keep hfx hfm (by decide)) (hR.a.keep hfx hfm (by decide)) (hR.d.keep hfx hfm (by decide)) (hR.c.keep hfx hfm (by decide)) (hR.x.keep hfx hfm (by decide)) (hR.b.keep hfx hfm (by decide)) (hR.h.keep hfx hfm (by decide)) (hR.t.keep hfx hfm (by decide)) (hR.k.keep hfx hfm (by decide)))
theorem lc_18 (X : ZC p s m #[Value.ref b] meth c code 8 RL G (fun q : Nat => s.heap.size ≤ q) ret nm) (hX : va_X b L xs s s.heap) (hbl : b < s.heap.size) (hbA : ¬ s.heap.size ≤ b) (hi0 : 0 ≤ i.toInt) (hi1 : i.toInt + 10 ≤ (L : Int) ∧ L ≤ 5120) (hx : CWx G x wx) (hy : MWx G y wm) (hR : RelQ G wx wm) (hc : kc ≤ room_1.cells) (hs : ks ≤ room_1.slots) (hK : ∀ wx' wm', CWx G x wx' → wx'.length = wx.length → MWx G y wm' → RelQ G wx' wm' → Z p l e room_1 s m #[Value.ref b] below meth c 8 G (fun q : Nat => s.heap.size ≤ q) (lw_Z below #[Value.ref b] s) 2192 (lv5 b x y o i) [] (wx' ++ wm' ++ [(o, aJ G 1 f)]) kc ks) : Z p l e room_1 s m #[Value.ref b] below meth c 8 G (fun q : Nat => s.heap.size ≤ q) (lw_Z below #[Value.ref b] s) 893 (lv5 b x y o i) [] (wx ++ wm ++ [(o, aJ G 1 f)]) kc ks := by
  refine z_aload_n X d_lw_893 rfl 1 rfl ?_
  refine z_aload_n X d_lw_894 rfl 0 rfl ?_
  refine z_iload X d_lw_895 4 rfl ?_
  refine z_iconst X d_lw_897 (v := 1) (by decide) ?_
  refine z_iadd X d_lw_898 ?_
  refine z_sld X hX hbl hbA (lw_in hi0 hi1 (k := 1) (by decide) (by decide)) d_lw_899 (v := xs (i + 1).toNatClampNeg) rfl ?_
  refine z_aload_n X d_lw_900 rfl 0 rfl ?_
  refine z_iload X d_lw_901 4 rfl ?_
  refine z_iconst X d_lw_903 (v := 2) (by decide) ?_
  refine z_iadd X d_lw_904 ?_
  refine z_sld X hX hbl hbA (lw_in hi0 hi1 (k := 2) (by decide) (by decide)) d_lw_905 (v := xs (i + 2).toNatClampNeg) rfl ?_
  rw [List.append_assoc]
  refine cx_callF (k := 0) (rest := []) (As := [.int (xs (i + 1).toNatClampNeg), .int (xs (i + 2).toNatClampNeg)]) (μ := (fun k => ((Value.ref x :: [.int (xs (i + 1).toNatClampNeg), .int (xs (i + 2).toNatClampNeg)])[k]?).getD .null)) X k_L_104 (ac_X10_judge_0 l G) (by decide) (by decide) (by decide) hx (fun ad w0 he => pre_mu (C := C_X10_judge_0) (ts := [tI0, tI0]) (As := [.int (xs (i + 1).toNatClampNeg), .int (xs (i + 2).toNatClampNeg)]) rfl rfl rfl rfl ⟨fun _ => vty_i0 _, fun _ => vty_i0 _, trivial⟩ ad w0 he) rfl d_lw_906 ⟨by decide, by decide⟩ ⟨hc, hs⟩ rfl rfl (by decide) rfl (fun r wx' hr hx' hl' hfx => ?_)
  rw [← List.append_assoc]
  rcases hr with ⟨h, -⟩ | ⟨-, v, rfl⟩ | ⟨h, -⟩
  all_goals first | (exact absurd h (by decide)) | skip
  refine z_pop X d_lw_909 rfl ?_
  refine z_aload_n X d_lw_910 rfl 2 rfl ?_
  refine z_aload_n X d_lw_911 rfl 0 rfl ?_
  refine z_iload X d_lw_912 4 rfl ?_
  refine z_iconst X d_lw_914 (v := 1) (by decide) ?_
  refine z_iadd X d_lw_915 ?_
  refine z_sld X hX hbl hbA (lw_in hi0 hi1 (k := 1) (by decide) (by decide)) d_lw_916 (v := xs (i + 1).toNatClampNeg) rfl ?_
  refine z_aload_n X d_lw_917 rfl 0 rfl ?_
  refine z_iload X d_lw_918 4 rfl ?_
  refine z_iconst X d_lw_920 (v := 2) (by decide) ?_
  refine z_iadd X d_lw_921 ?_
  refine z_sld X hX hbl hbA (lw_in hi0 hi1 (k := 2) (by decide) (by decide)) d_lw_922 (v := xs (i + 2).toNatClampNeg) rfl ?_
  refine mx_callF (k := 0) (wa := wx') (rest := []) (As := [.int (xs (i + 1).toNatClampNeg), .int (xs (i + 2).toNatClampNeg)]) (μ := (fun k => ((Value.ref y :: [.int (xs (i + 1).toNatClampNeg), .int (xs (i + 2).toNatClampNeg)])[k]?).getD .null)) X k_L_107 (ac_X11_judge_0 l G) (by decide) (by decide) hy (fun ad w0 he => pre_mu (C := C_X11_judge_0) (ts := [tI0, tI0]) (As := [.int (xs (i + 1).toNatClampNeg), .int (xs (i + 2).toNatClampNeg)]) rfl rfl rfl rfl ⟨fun _ => vty_i0 _, fun _ => vty_i0 _, trivial⟩ ad w0 he) rfl d_lw_923 ⟨by decide, by decide⟩ ⟨hc, hs⟩ rfl rfl (Nat.le_of_ble_eq_true rfl) rfl (fun r wm' hr hy' hfm => ?_)
  rcases hr with ⟨h, -⟩ | ⟨-, v, rfl⟩ | ⟨h, -⟩
  all_goals first | (exact absurd h (by decide)) | skip
  refine z_pop X d_lw_926 rfl ?_
  refine z_goto X d_lw_927 (tgt := 2192) (by decide) ?_
  exact hK wx' wm' hx' hl' hy' (RelQ.of (hR.m.keep hfx hfm (by decide)) (hR.a.keep hfx hfm (by decide)) (hR.d.keep hfx hfm (by decide)) (hR.c.keep hfx hfm (by decide)) (hR.x.keep hfx hfm (by decide)) (hR.b.keep hfx hfm (by decide)) (hR.h.keep hfx hfm (by decide)) (hR.t.keep hfx hfm (by decide)) (hR.k.keep hfx hfm (by decide)))
theorem lc_19 (X : ZC p s m #[Value.ref b] meth c code 8 RL G (fun q : Nat => s.heap.size ≤ q) ret nm) (hX : va_X b L xs s s.heap) (hbl : b < s.heap.size) (hbA : ¬ s.heap.size ≤ b) (hi0 : 0 ≤ i.toInt) (hi1 : i.toInt + 10 ≤ (L : Int) ∧ L ≤ 5120) (hx : CWx G x wx) (hy : MWx G y wm) (hR : RelQ G wx wm) (hc : kc ≤ room_1.cells) (hs : ks ≤ room_1.slots) (hK : ∀ wx' wm', CWx G x wx' → wx'.length = wx.length → MWx G y wm' → RelQ G wx' wm' → Z p l e room_1 s m #[Value.ref b] below meth c 8 G (fun q : Nat => s.heap.size ≤ q) (lw_Z below #[Value.ref b] s) 2192 (lv5 b x y o i) [] (wx' ++ wm' ++ [(o, aJ G 1 f)]) kc ks) : Z p l e room_1 s m #[Value.ref b] below meth c 8 G (fun q : Nat => s.heap.size ≤ q) (lw_Z below #[Value.ref b] s) 930 (lv5 b x y o i) [] (wx ++ wm ++ [(o, aJ G 1 f)]) kc ks := by
  refine z_aload_n X d_lw_930 rfl 1 rfl ?_
  rw [List.append_assoc]
  refine cx_callF (k := 0) (rest := []) (As := []) (μ := (fun k => ((Value.ref x :: [])[k]?).getD .null)) X k_L_108 (ac_X10_bars_0 l G) (by decide) (by decide) (by decide) hx (fun ad w0 he => pre_mu (C := C_X10_bars_0) (ts := []) (As := []) rfl rfl rfl rfl trivial ad w0 he) rfl d_lw_931 ⟨by decide, by decide⟩ ⟨hc, hs⟩ rfl rfl (by decide) rfl (fun r wx' hr hx' hl' hfx => ?_)
  rw [← List.append_assoc]
  rcases hr with ⟨h, -⟩ | ⟨-, v, rfl⟩ | ⟨h, -⟩
  all_goals first | (exact absurd h (by decide)) | skip
  refine z_pop X d_lw_934 rfl ?_
  refine z_aload_n X d_lw_935 rfl 2 rfl ?_
  refine mx_callF (k := 0) (wa := wx') (rest := []) (As := []) (μ := (fun k => ((Value.ref y :: [])[k]?).getD .null)) X k_L_111 (ac_X11_bars_0 l G) (by decide) (by decide) hy (fun ad w0 he => pre_mu (C := C_X11_bars_0) (ts := []) (As := []) rfl rfl rfl rfl trivial ad w0 he) rfl d_lw_936 ⟨by decide, by decide⟩ ⟨hc, hs⟩ rfl rfl (Nat.le_of_ble_eq_true rfl) rfl (fun r wm' hr hy' hfm => ?_)
  rcases hr with ⟨h, -⟩ | ⟨-, v, rfl⟩ | ⟨h, -⟩
  all_goals first | (exact absurd h (by decide)) | skip
  refine z_pop X d_lw_939 rfl ?_
  refine z_goto X d_lw_940 (tgt := 2192) (by decide) ?_
  exact hK wx' wm' hx' hl' hy' (RelQ.of (hR.m.keep hfx hfm (by decide)) (hR.a.keep hfx hfm (by decide)) (hR.d.keep hfx hfm (by decide)) (hR.c.keep hfx hfm (by decide)) (hR.x.keep hfx hfm (by decide)) (hR.b.keep hfx hfm (by decide)) (hR.h.keep hfx hfm (by decide)) (hR.t.keep hfx hfm (by decide)) (hR.k.keep hfx hfm (by decide)))
theorem lc_20 (X : ZC p s m #[Value.ref b] meth c code 8 RL G (fun q : Nat => s.heap.size ≤ q) ret nm) (hX : va_X b L xs s s.heap) (hbl : b < s.heap.size) (hbA : ¬ s.heap.size ≤ b) (hi0 : 0 ≤ i.toInt) (hi1 : i.toInt + 10 ≤ (L : Int) ∧ L ≤ 5120) (hx : CWx G x wx) (hy : MWx G y wm) (hR : RelQ G wx wm) (hbud : wx.length = 109 → kc + 7 ≤ room_1.cells ∧ ks + 80434 ≤ room_1.slots) (hc : kc ≤ room_1.cells) (hs : ks ≤ room_1.slots) (hK : ∀ (k n : Nat) (wx' wm' : va_W), CWx G x wx' → ((k = 0 ∧ n = 0 ∧ wx'.length = wx.length) ∨ (k = 7 ∧ n = 80434 ∧ wx.length = 109 ∧ wx'.length = 116)) → MWx G y wm' → RelQ G wx' wm' → Z p l e room_1 s m #[Value.ref b] below meth c 8 G (fun q : Nat => s.heap.size ≤ q) (lw_Z below #[Value.ref b] s) 2192 (lv5 b x y o i) [] (wx' ++ wm' ++ [(o, aJ G 1 f)]) (kc + k) (ks + n)) : Z p l e room_1 s m #[Value.ref b] below meth c 8 G (fun q : Nat => s.heap.size ≤ q) (lw_Z below #[Value.ref b] s) 943 (lv5 b x y o i) [] (wx ++ wm ++ [(o, aJ G 1 f)]) kc ks := by
  refine z_aload_n X d_lw_943 rfl 1 rfl ?_
  refine z_aload_n X d_lw_944 rfl 0 rfl ?_
  refine z_iload X d_lw_945 4 rfl ?_
  refine z_iconst X d_lw_947 (v := 1) (by decide) ?_
  refine z_iadd X d_lw_948 ?_
  refine z_sld X hX hbl hbA (lw_in hi0 hi1 (k := 1) (by decide) (by decide)) d_lw_949 (v := xs (i + 1).toNatClampNeg) rfl ?_
  refine z_aload_n X d_lw_950 rfl 0 rfl ?_
  refine z_iload X d_lw_951 4 rfl ?_
  refine z_iconst X d_lw_953 (v := 2) (by decide) ?_
  refine z_iadd X d_lw_954 ?_
  refine z_sld X hX hbl hbA (lw_in hi0 hi1 (k := 2) (by decide) (by decide)) d_lw_955 (v := xs (i + 2).toNatClampNeg) rfl ?_
  rw [List.append_assoc]
  refine cx_growV (rN := rm_nx 7 80434) (rR := rm_nx 0 0) (rest := []) (As := [.int (xs (i + 1).toNatClampNeg), .int (xs (i + 2).toNatClampNeg)]) X k_L_112 (fun ad w0 h1 h2 h3 => ac_nxV l G (xs (i + 1).toNatClampNeg) (xs (i + 2).toNatClampNeg) h1 h2 h3) (fun ad w0 h1 h2 h3 => ac_nxR l G (xs (i + 1).toNatClampNeg) (xs (i + 2).toNatClampNeg) h1 h2 h3) hx d_lw_956 ⟨by decide, by decide⟩ ⟨by decide, by decide⟩ hbud ⟨hc, hs⟩ ⟨rfl, rfl⟩ rfl rfl (by decide) rfl (fun k n v wx' hx' hfx hcost => ?_)
  rw [← List.append_assoc]
  have hcs : kc + k ≤ room_1.cells ∧ ks + n ≤ room_1.slots := by
    rcases hcost with ⟨rfl, rfl, -⟩ | ⟨rfl, rfl, h, -⟩
    · exact ⟨hc, hs⟩
    · exact hbud h
  refine z_pop X d_lw_959 rfl ?_
  refine z_aload_n X d_lw_960 rfl 2 rfl ?_
  refine z_aload_n X d_lw_961 rfl 0 rfl ?_
  refine z_iload X d_lw_962 4 rfl ?_
  refine z_iconst X d_lw_964 (v := 1) (by decide) ?_
  refine z_iadd X d_lw_965 ?_
  refine z_sld X hX hbl hbA (lw_in hi0 hi1 (k := 1) (by decide) (by decide)) d_lw_966 (v := xs (i + 1).toNatClampNeg) rfl ?_
  refine z_aload_n X d_lw_967 rfl 0 rfl ?_
  refine z_iload X d_lw_968 4 rfl ?_
  refine z_iconst X d_lw_970 (v := 2) (by decide) ?_
  refine z_iadd X d_lw_971 ?_
  refine z_sld X hX hbl hbA (lw_in hi0 hi1 (k := 2) (by decide) (by decide)) d_lw_972 (v := xs (i + 2).toNatClampNeg) rfl ?_
  refine mx_callF (k := 0) (wa := wx') (rest := []) (As := [.int (xs (i + 1).toNatClampNeg), .int (xs (i + 2).toNatClampNeg)]) (μ := (fun k => ((Value.ref y :: [.int (xs (i + 1).toNatClampNeg), .int (xs (i + 2).toNatClampNeg)])[k]?).getD .null)) X k_L_115 (ac_X11_next_0 l G) (by decide) (by decide) hy (fun ad w0 he => pre_mu (C := C_X11_next_0) (ts := [tI0, tI0]) (As := [.int (xs (i + 1).toNatClampNeg), .int (xs (i + 2).toNatClampNeg)]) rfl rfl rfl rfl ⟨fun _ => vty_i0 _, fun _ => vty_i0 _, trivial⟩ ad w0 he) rfl d_lw_973 ⟨by decide, by decide⟩ hcs rfl rfl (Nat.le_of_ble_eq_true rfl) rfl (fun r wm' hr hy' hfm => ?_)
  rcases hr with ⟨h, -⟩ | ⟨-, v2, rfl⟩ | ⟨h, -⟩
  all_goals first | (exact absurd h (by decide)) | skip
  refine z_pop X d_lw_976 rfl ?_
  refine z_goto X d_lw_977 (tgt := 2192) (by decide) ?_
  exact hK k n wx' wm' hx' hcost hy' (RelQ.of (hR.m.keep hfx hfm (by decide)) (hR.a.keep hfx hfm (by decide)) (hR.d.keep hfx hfm (by decide)) (hR.c.keep hfx hfm (by decide)) (hR.x.keep hfx hfm (by decide)) (hR.b.keep hfx hfm (by decide)) (hR.h.keep hfx hfm (by decide)) (hR.t.keep hfx hfm (by decide)) (hR.k.keep hfx hfm (by decide)))
theorem lc_21 (X : ZC p s m #[Value.ref b] meth c code 8 RL G (fun q : Nat => s.heap.size ≤ q) ret nm) (hX : va_X b L xs s s.heap) (hbl : b < s.heap.size) (hbA : ¬ s.heap.size ≤ b) (hi0 : 0 ≤ i.toInt) (hi1 : i.toInt + 10 ≤ (L : Int) ∧ L ≤ 5120) (hx : CWx G x wx) (hy : MWx G y wm) (hR : RelQ G wx wm) (hbud : wx.length = 109 → kc + 7 ≤ room_1.cells ∧ ks + 80434 ≤ room_1.slots) (hc : kc ≤ room_1.cells) (hs : ks ≤ room_1.slots) (hK : ∀ (k n : Nat) (wx' wm' : va_W), CWx G x wx' → ((k = 0 ∧ n = 0 ∧ wx'.length = wx.length) ∨ (k = 7 ∧ n = 80434 ∧ wx.length = 109 ∧ wx'.length = 116)) → MWx G y wm' → RelQ G wx' wm' → Z p l e room_1 s m #[Value.ref b] below meth c 8 G (fun q : Nat => s.heap.size ≤ q) (lw_Z below #[Value.ref b] s) 2192 (lv5 b x y o i) [] (wx' ++ wm' ++ [(o, aJ G 1 f)]) (kc + k) (ks + n)) : Z p l e room_1 s m #[Value.ref b] below meth c 8 G (fun q : Nat => s.heap.size ≤ q) (lw_Z below #[Value.ref b] s) 980 (lv5 b x y o i) [] (wx ++ wm ++ [(o, aJ G 1 f)]) kc ks := by
  refine z_aload_n X d_lw_980 rfl 1 rfl ?_
  refine z_aload_n X d_lw_981 rfl 0 rfl ?_
  refine z_iload X d_lw_982 4 rfl ?_
  refine z_iconst X d_lw_984 (v := 1) (by decide) ?_
  refine z_iadd X d_lw_985 ?_
  refine z_sld X hX hbl hbA (lw_in hi0 hi1 (k := 1) (by decide) (by decide)) d_lw_986 (v := xs (i + 1).toNatClampNeg) rfl ?_
  refine z_aload_n X d_lw_987 rfl 0 rfl ?_
  refine z_iload X d_lw_988 4 rfl ?_
  refine z_iconst X d_lw_990 (v := 2) (by decide) ?_
  refine z_iadd X d_lw_991 ?_
  refine z_sld X hX hbl hbA (lw_in hi0 hi1 (k := 2) (by decide) (by decide)) d_lw_992 (v := xs (i + 2).toNatClampNeg) rfl ?_
  refine z_aload_n X d_lw_993 rfl 0 rfl ?_
  refine z_iload X d_lw_994 4 rfl ?_
  refine z_iconst X d_lw_996 (v := 3) (by decide) ?_
  refine z_iadd X d_lw_997 ?_
  refine z_sld X hX hbl hbA (lw_in hi0 hi1 (k := 3) (by decide) (by decide)) d_lw_998 (v := xs (i + 3).toNatClampNeg) rfl ?_
  rw [List.append_assoc]
  refine cx_growV (rN := rm_en 7 80434) (rR := rm_en 0 0) (rest := []) (As := [.int (xs (i + 1).toNatClampNeg), .int (xs (i + 2).toNatClampNeg), .int (xs (i + 3).toNatClampNeg)]) X k_L_116 (fun ad w0 h1 h2 h3 => ac_enV l G (xs (i + 1).toNatClampNeg) (xs (i + 2).toNatClampNeg) (xs (i + 3).toNatClampNeg) h1 h2 h3) (fun ad w0 h1 h2 h3 => ac_enR l G (xs (i + 1).toNatClampNeg) (xs (i + 2).toNatClampNeg) (xs (i + 3).toNatClampNeg) h1 h2 h3) hx d_lw_999 ⟨by decide, by decide⟩ ⟨by decide, by decide⟩ hbud ⟨hc, hs⟩ ⟨rfl, rfl⟩ rfl rfl (by decide) rfl (fun k n v wx' hx' hfx hcost => ?_)
  rw [← List.append_assoc]
  have hcs : kc + k ≤ room_1.cells ∧ ks + n ≤ room_1.slots := by
    rcases hcost with ⟨rfl, rfl, -⟩ | ⟨rfl, rfl, h, -⟩
    · exact ⟨hc, hs⟩
    · exact hbud h
  refine z_pop X d_lw_1002 rfl ?_
  refine z_aload_n X d_lw_1003 rfl 2 rfl ?_
  refine z_aload_n X d_lw_1004 rfl 0 rfl ?_
  refine z_iload X d_lw_1005 4 rfl ?_
  refine z_iconst X d_lw_1007 (v := 1) (by decide) ?_
  refine z_iadd X d_lw_1008 ?_
  refine z_sld X hX hbl hbA (lw_in hi0 hi1 (k := 1) (by decide) (by decide)) d_lw_1009 (v := xs (i + 1).toNatClampNeg) rfl ?_
  refine z_aload_n X d_lw_1010 rfl 0 rfl ?_
  refine z_iload X d_lw_1011 4 rfl ?_
  refine z_iconst X d_lw_1013 (v := 2) (by decide) ?_
  refine z_iadd X d_lw_1014 ?_
  refine z_sld X hX hbl hbA (lw_in hi0 hi1 (k := 2) (by decide) (by decide)) d_lw_1015 (v := xs (i + 2).toNatClampNeg) rfl ?_
  refine z_aload_n X d_lw_1016 rfl 0 rfl ?_
  refine z_iload X d_lw_1017 4 rfl ?_
  refine z_iconst X d_lw_1019 (v := 3) (by decide) ?_
  refine z_iadd X d_lw_1020 ?_
  refine z_sld X hX hbl hbA (lw_in hi0 hi1 (k := 3) (by decide) (by decide)) d_lw_1021 (v := xs (i + 3).toNatClampNeg) rfl ?_
  refine mx_callF (k := 0) (wa := wx') (rest := []) (As := [.int (xs (i + 1).toNatClampNeg), .int (xs (i + 2).toNatClampNeg), .int (xs (i + 3).toNatClampNeg)]) (μ := (fun k => ((Value.ref y :: [.int (xs (i + 1).toNatClampNeg), .int (xs (i + 2).toNatClampNeg), .int (xs (i + 3).toNatClampNeg)])[k]?).getD .null)) X k_L_119 (ac_X11_enough_0 l G) (by decide) (by decide) hy (fun ad w0 he => pre_mu (C := C_X11_enough_0) (ts := [tI0, tI0, tI0]) (As := [.int (xs (i + 1).toNatClampNeg), .int (xs (i + 2).toNatClampNeg), .int (xs (i + 3).toNatClampNeg)]) rfl rfl rfl rfl ⟨fun _ => vty_i0 _, fun _ => vty_i0 _, fun _ => vty_i0 _, trivial⟩ ad w0 he) rfl d_lw_1022 ⟨by decide, by decide⟩ hcs rfl rfl (Nat.le_of_ble_eq_true rfl) rfl (fun r wm' hr hy' hfm => ?_)
  rcases hr with ⟨h, -⟩ | ⟨-, v2, rfl⟩ | ⟨h, -⟩
  all_goals first | (exact absurd h (by decide)) | skip
  refine z_pop X d_lw_1025 rfl ?_
  refine z_goto X d_lw_1026 (tgt := 2192) (by decide) ?_
  exact hK k n wx' wm' hx' hcost hy' (RelQ.of (hR.m.keep hfx hfm (by decide)) (hR.a.keep hfx hfm (by decide)) (hR.d.keep hfx hfm (by decide)) (hR.c.keep hfx hfm (by decide)) (hR.x.keep hfx hfm (by decide)) (hR.b.keep hfx hfm (by decide)) (hR.h.keep hfx hfm (by decide)) (hR.t.keep hfx hfm (by decide)) (hR.k.keep hfx hfm (by decide)))
theorem lc_22 (X : ZC p s m #[Value.ref b] meth c code 8 RL G (fun q : Nat => s.heap.size ≤ q) ret nm) (hX : va_X b L xs s s.heap) (hbl : b < s.heap.size) (hbA : ¬ s.heap.size ≤ b) (hi0 : 0 ≤ i.toInt) (hi1 : i.toInt + 10 ≤ (L : Int) ∧ L ≤ 5120) (hx : CWx G x wx) (hy : MWx G y wm) (hR : RelQ G wx wm) (hc : kc ≤ room_1.cells) (hs : ks ≤ room_1.slots) (hK : ∀ wx' wm', CWx G x wx' → wx'.length = wx.length → MWx G y wm' → RelQ G wx' wm' → Z p l e room_1 s m #[Value.ref b] below meth c 8 G (fun q : Nat => s.heap.size ≤ q) (lw_Z below #[Value.ref b] s) 2192 (lv5 b x y o i) [] (wx' ++ wm' ++ [(o, aJ G 1 f)]) kc ks) : Z p l e room_1 s m #[Value.ref b] below meth c 8 G (fun q : Nat => s.heap.size ≤ q) (lw_Z below #[Value.ref b] s) 1029 (lv5 b x y o i) [] (wx ++ wm ++ [(o, aJ G 1 f)]) kc ks := by
  refine z_aload_n X d_lw_1029 rfl 1 rfl ?_
  refine z_aload_n X d_lw_1030 rfl 0 rfl ?_
  refine z_iload X d_lw_1031 4 rfl ?_
  refine z_iconst X d_lw_1033 (v := 1) (by decide) ?_
  refine z_iadd X d_lw_1034 ?_
  refine z_sld X hX hbl hbA (lw_in hi0 hi1 (k := 1) (by decide) (by decide)) d_lw_1035 (v := xs (i + 1).toNatClampNeg) rfl ?_
  refine z_aload_n X d_lw_1036 rfl 0 rfl ?_
  refine z_iload X d_lw_1037 4 rfl ?_
  refine z_iconst X d_lw_1039 (v := 2) (by decide) ?_
  refine z_iadd X d_lw_1040 ?_
  refine z_sld X hX hbl hbA (lw_in hi0 hi1 (k := 2) (by decide) (by decide)) d_lw_1041 (v := xs (i + 2).toNatClampNeg) rfl ?_
  refine z_aload_n X d_lw_1042 rfl 0 rfl ?_
  refine z_iload X d_lw_1043 4 rfl ?_
  refine z_iconst X d_lw_1045 (v := 3) (by decide) ?_
  refine z_iadd X d_lw_1046 ?_
  refine z_sld X hX hbl hbA (lw_in hi0 hi1 (k := 3) (by decide) (by decide)) d_lw_1047 (v := xs (i + 3).toNatClampNeg) rfl ?_
  rw [List.append_assoc]
  refine cx_callF (k := 0) (rest := []) (As := [.int (xs (i + 1).toNatClampNeg), .int (xs (i + 2).toNatClampNeg), .int (xs (i + 3).toNatClampNeg)]) (μ := (fun k => ((Value.ref x :: [.int (xs (i + 1).toNatClampNeg), .int (xs (i + 2).toNatClampNeg), .int (xs (i + 3).toNatClampNeg)])[k]?).getD .null)) X k_L_120 (ac_X10_man_0 l G) (by decide) (by decide) (by decide) hx (fun ad w0 he => pre_mu (C := C_X10_man_0) (ts := [tI0, tI0, tI0]) (As := [.int (xs (i + 1).toNatClampNeg), .int (xs (i + 2).toNatClampNeg), .int (xs (i + 3).toNatClampNeg)]) rfl rfl rfl rfl ⟨fun _ => vty_i0 _, fun _ => vty_i0 _, fun _ => vty_i0 _, trivial⟩ ad w0 he) rfl d_lw_1048 ⟨by decide, by decide⟩ ⟨hc, hs⟩ rfl rfl (by decide) rfl (fun r wx' hr hx' hl' hfx => ?_)
  rw [← List.append_assoc]
  rcases hr with ⟨h, -⟩ | ⟨-, v, rfl⟩ | ⟨h, -⟩
  all_goals first | (exact absurd h (by decide)) | skip
  refine z_pop X d_lw_1051 rfl ?_
  refine z_aload_n X d_lw_1052 rfl 2 rfl ?_
  refine z_aload_n X d_lw_1053 rfl 0 rfl ?_
  refine z_iload X d_lw_1054 4 rfl ?_
  refine z_iconst X d_lw_1056 (v := 1) (by decide) ?_
  refine z_iadd X d_lw_1057 ?_
  refine z_sld X hX hbl hbA (lw_in hi0 hi1 (k := 1) (by decide) (by decide)) d_lw_1058 (v := xs (i + 1).toNatClampNeg) rfl ?_
  refine z_aload_n X d_lw_1059 rfl 0 rfl ?_
  refine z_iload X d_lw_1060 4 rfl ?_
  refine z_iconst X d_lw_1062 (v := 2) (by decide) ?_
  refine z_iadd X d_lw_1063 ?_
  refine z_sld X hX hbl hbA (lw_in hi0 hi1 (k := 2) (by decide) (by decide)) d_lw_1064 (v := xs (i + 2).toNatClampNeg) rfl ?_
  refine z_aload_n X d_lw_1065 rfl 0 rfl ?_
  refine z_iload X d_lw_1066 4 rfl ?_
  refine z_iconst X d_lw_1068 (v := 3) (by decide) ?_
  refine z_iadd X d_lw_1069 ?_
  refine z_sld X hX hbl hbA (lw_in hi0 hi1 (k := 3) (by decide) (by decide)) d_lw_1070 (v := xs (i + 3).toNatClampNeg) rfl ?_
  refine mx_callF (k := 0) (wa := wx') (rest := []) (As := [.int (xs (i + 1).toNatClampNeg), .int (xs (i + 2).toNatClampNeg), .int (xs (i + 3).toNatClampNeg)]) (μ := (fun k => ((Value.ref y :: [.int (xs (i + 1).toNatClampNeg), .int (xs (i + 2).toNatClampNeg), .int (xs (i + 3).toNatClampNeg)])[k]?).getD .null)) X k_L_123 (ac_X11_man_0 l G) (by decide) (by decide) hy (fun ad w0 he => pre_mu (C := C_X11_man_0) (ts := [tI0, tI0, tI0]) (As := [.int (xs (i + 1).toNatClampNeg), .int (xs (i + 2).toNatClampNeg), .int (xs (i + 3).toNatClampNeg)]) rfl rfl rfl rfl ⟨fun _ => vty_i0 _, fun _ => vty_i0 _, fun _ => vty_i0 _, trivial⟩ ad w0 he) rfl d_lw_1071 ⟨by decide, by decide⟩ ⟨hc, hs⟩ rfl rfl (Nat.le_of_ble_eq_true rfl) rfl (fun r wm' hr hy' hfm => ?_)
  rcases hr with ⟨h, -⟩ | ⟨-, v, rfl⟩ | ⟨h, -⟩
  all_goals first | (exact absurd h (by decide)) | skip
  refine z_pop X d_lw_1074 rfl ?_
  refine z_goto X d_lw_1075 (tgt := 2192) (by decide) ?_
  exact hK wx' wm' hx' hl' hy' (RelQ.of (hR.m.keep hfx hfm (by decide)) (hR.a.keep hfx hfm (by decide)) (hR.d.keep hfx hfm (by decide)) (hR.c.keep hfx hfm (by decide)) (hR.x.keep hfx hfm (by decide)) (hR.b.keep hfx hfm (by decide)) (hR.h.keep hfx hfm (by decide)) (hR.t.keep hfx hfm (by decide)) (hR.k.keep hfx hfm (by decide)))
theorem lc_23 (X : ZC p s m #[Value.ref b] meth c code 8 RL G (fun q : Nat => s.heap.size ≤ q) ret nm) (hX : va_X b L xs s s.heap) (hbl : b < s.heap.size) (hbA : ¬ s.heap.size ≤ b) (hi0 : 0 ≤ i.toInt) (hi1 : i.toInt + 10 ≤ (L : Int) ∧ L ≤ 5120) (hx : CWx G x wx) (hy : MWx G y wm) (hR : RelQ G wx wm) (hc : kc ≤ room_1.cells) (hs : ks ≤ room_1.slots) (hK : ∀ wx' wm', CWx G x wx' → wx'.length = wx.length → MWx G y wm' → RelQ G wx' wm' → Z p l e room_1 s m #[Value.ref b] below meth c 8 G (fun q : Nat => s.heap.size ≤ q) (lw_Z below #[Value.ref b] s) 2192 (lv5 b x y o i) [] (wx' ++ wm' ++ [(o, aJ G 1 f)]) kc ks) : Z p l e room_1 s m #[Value.ref b] below meth c 8 G (fun q : Nat => s.heap.size ≤ q) (lw_Z below #[Value.ref b] s) 1078 (lv5 b x y o i) [] (wx ++ wm ++ [(o, aJ G 1 f)]) kc ks := by
  refine z_aload_n X d_lw_1078 rfl 1 rfl ?_
  refine z_aload_n X d_lw_1079 rfl 0 rfl ?_
  refine z_iload X d_lw_1080 4 rfl ?_
  refine z_iconst X d_lw_1082 (v := 1) (by decide) ?_
  refine z_iadd X d_lw_1083 ?_
  refine z_sld X hX hbl hbA (lw_in hi0 hi1 (k := 1) (by decide) (by decide)) d_lw_1084 (v := xs (i + 1).toNatClampNeg) rfl ?_
  refine z_aload_n X d_lw_1085 rfl 0 rfl ?_
  refine z_iload X d_lw_1086 4 rfl ?_
  refine z_iconst X d_lw_1088 (v := 2) (by decide) ?_
  refine z_iadd X d_lw_1089 ?_
  refine z_sld X hX hbl hbA (lw_in hi0 hi1 (k := 2) (by decide) (by decide)) d_lw_1090 (v := xs (i + 2).toNatClampNeg) rfl ?_
  rw [List.append_assoc]
  refine cx_callF (k := 0) (rest := []) (As := [.int (xs (i + 1).toNatClampNeg), .int (xs (i + 2).toNatClampNeg)]) (μ := (fun k => ((Value.ref x :: [.int (xs (i + 1).toNatClampNeg), .int (xs (i + 2).toNatClampNeg)])[k]?).getD .null)) X k_L_124 (ac_X10_tells_0 l G) (by decide) (by decide) (by decide) hx (fun ad w0 he => pre_mu (C := C_X10_tells_0) (ts := [tI0, tI0]) (As := [.int (xs (i + 1).toNatClampNeg), .int (xs (i + 2).toNatClampNeg)]) rfl rfl rfl rfl ⟨fun _ => vty_i0 _, fun _ => vty_i0 _, trivial⟩ ad w0 he) rfl d_lw_1091 ⟨by decide, by decide⟩ ⟨hc, hs⟩ rfl rfl (by decide) rfl (fun r wx' hr hx' hl' hfx => ?_)
  rw [← List.append_assoc]
  rcases hr with ⟨h, -⟩ | ⟨-, v, rfl⟩ | ⟨h, -⟩
  all_goals first | (exact absurd h (by decide)) | skip
  refine z_pop X d_lw_1094 rfl ?_
  refine z_aload_n X d_lw_1095 rfl 2 rfl ?_
  refine z_aload_n X d_lw_1096 rfl 0 rfl ?_
  refine z_iload X d_lw_1097 4 rfl ?_
  refine z_iconst X d_lw_1099 (v := 1) (by decide) ?_
  refine z_iadd X d_lw_1100 ?_
  refine z_sld X hX hbl hbA (lw_in hi0 hi1 (k := 1) (by decide) (by decide)) d_lw_1101 (v := xs (i + 1).toNatClampNeg) rfl ?_
  refine z_aload_n X d_lw_1102 rfl 0 rfl ?_
  refine z_iload X d_lw_1103 4 rfl ?_
  refine z_iconst X d_lw_1105 (v := 2) (by decide) ?_
  refine z_iadd X d_lw_1106 ?_
  refine z_sld X hX hbl hbA (lw_in hi0 hi1 (k := 2) (by decide) (by decide)) d_lw_1107 (v := xs (i + 2).toNatClampNeg) rfl ?_
  refine mx_callF (k := 0) (wa := wx') (rest := []) (As := [.int (xs (i + 1).toNatClampNeg), .int (xs (i + 2).toNatClampNeg)]) (μ := (fun k => ((Value.ref y :: [.int (xs (i + 1).toNatClampNeg), .int (xs (i + 2).toNatClampNeg)])[k]?).getD .null)) X k_L_127 (ac_X11_tells_0 l G) (by decide) (by decide) hy (fun ad w0 he => pre_mu (C := C_X11_tells_0) (ts := [tI0, tI0]) (As := [.int (xs (i + 1).toNatClampNeg), .int (xs (i + 2).toNatClampNeg)]) rfl rfl rfl rfl ⟨fun _ => vty_i0 _, fun _ => vty_i0 _, trivial⟩ ad w0 he) rfl d_lw_1108 ⟨by decide, by decide⟩ ⟨hc, hs⟩ rfl rfl (Nat.le_of_ble_eq_true rfl) rfl (fun r wm' hr hy' hfm => ?_)
  rcases hr with ⟨h, -⟩ | ⟨-, v, rfl⟩ | ⟨h, -⟩
  all_goals first | (exact absurd h (by decide)) | skip
  refine z_pop X d_lw_1111 rfl ?_
  refine z_goto X d_lw_1112 (tgt := 2192) (by decide) ?_
  exact hK wx' wm' hx' hl' hy' (RelQ.of (hR.m.keep hfx hfm (by decide)) (hR.a.keep hfx hfm (by decide)) (hR.d.keep hfx hfm (by decide)) (hR.c.keep hfx hfm (by decide)) (hR.x.keep hfx hfm (by decide)) (hR.b.keep hfx hfm (by decide)) (hR.h.keep hfx hfm (by decide)) (hR.t.keep hfx hfm (by decide)) (hR.k.keep hfx hfm (by decide)))
theorem lc_24 (X : ZC p s m #[Value.ref b] meth c code 8 RL G (fun q : Nat => s.heap.size ≤ q) ret nm) (hX : va_X b L xs s s.heap) (hbl : b < s.heap.size) (hbA : ¬ s.heap.size ≤ b) (hi0 : 0 ≤ i.toInt) (hi1 : i.toInt + 10 ≤ (L : Int) ∧ L ≤ 5120) (hx : CWx G x wx) (hy : MWx G y wm) (hR : RelQ G wx wm) (hc : kc ≤ room_1.cells) (hs : ks ≤ room_1.slots) (hK : ∀ wx' wm', CWx G x wx' → wx'.length = wx.length → MWx G y wm' → RelQ G wx' wm' → Z p l e room_1 s m #[Value.ref b] below meth c 8 G (fun q : Nat => s.heap.size ≤ q) (lw_Z below #[Value.ref b] s) 2192 (lv5 b x y o i) [] (wx' ++ wm' ++ [(o, aJ G 1 f)]) kc ks) : Z p l e room_1 s m #[Value.ref b] below meth c 8 G (fun q : Nat => s.heap.size ≤ q) (lw_Z below #[Value.ref b] s) 1115 (lv5 b x y o i) [] (wx ++ wm ++ [(o, aJ G 1 f)]) kc ks := by
  refine z_aload_n X d_lw_1115 rfl 1 rfl ?_
  refine z_aload_n X d_lw_1116 rfl 0 rfl ?_
  refine z_iload X d_lw_1117 4 rfl ?_
  refine z_iconst X d_lw_1119 (v := 1) (by decide) ?_
  refine z_iadd X d_lw_1120 ?_
  refine z_sld X hX hbl hbA (lw_in hi0 hi1 (k := 1) (by decide) (by decide)) d_lw_1121 (v := xs (i + 1).toNatClampNeg) rfl ?_
  refine z_aload_n X d_lw_1122 rfl 0 rfl ?_
  refine z_iload X d_lw_1123 4 rfl ?_
  refine z_iconst X d_lw_1125 (v := 2) (by decide) ?_
  refine z_iadd X d_lw_1126 ?_
  refine z_sld X hX hbl hbA (lw_in hi0 hi1 (k := 2) (by decide) (by decide)) d_lw_1127 (v := xs (i + 2).toNatClampNeg) rfl ?_
  refine z_aload_n X d_lw_1128 rfl 0 rfl ?_
  refine z_iload X d_lw_1129 4 rfl ?_
  refine z_iconst X d_lw_1131 (v := 3) (by decide) ?_
  refine z_iadd X d_lw_1132 ?_
  refine z_sld X hX hbl hbA (lw_in hi0 hi1 (k := 3) (by decide) (by decide)) d_lw_1133 (v := xs (i + 3).toNatClampNeg) rfl ?_
  refine z_aload_n X d_lw_1134 rfl 0 rfl ?_
  refine z_iload X d_lw_1135 4 rfl ?_
  refine z_iconst X d_lw_1137 (v := 4) (by decide) ?_
  refine z_iadd X d_lw_1138 ?_
  refine z_sld X hX hbl hbA (lw_in hi0 hi1 (k := 4) (by decide) (by decide)) d_lw_1139 (v := xs (i + 4).toNatClampNeg) rfl ?_
  rw [List.append_assoc]
  refine cx_callF (k := 0) (rest := []) (As := [.int (xs (i + 1).toNatClampNeg), .int (xs (i + 2).toNatClampNeg), .int (xs (i + 3).toNatClampNeg), .int (xs (i + 4).toNatClampNeg)]) (μ := (fun k => ((Value.ref x :: [.int (xs (i + 1).toNatClampNeg), .int (xs (i + 2).toNatClampNeg), .int (xs (i + 3).toNatClampNeg), .int (xs (i + 4).toNatClampNeg)])[k]?).getD .null)) X k_L_128 (ac_X10_men_0 l G) (by decide) (by decide) (by decide) hx (fun ad w0 he => pre_mu (C := C_X10_men_0) (ts := [tI0, tI0, tI0, tI0]) (As := [.int (xs (i + 1).toNatClampNeg), .int (xs (i + 2).toNatClampNeg), .int (xs (i + 3).toNatClampNeg), .int (xs (i + 4).toNatClampNeg)]) rfl rfl rfl rfl ⟨fun _ => vty_i0 _, fun _ => vty_i0 _, fun _ => vty_i0 _, fun _ => vty_i0 _, trivial⟩ ad w0 he) rfl d_lw_1140 ⟨by decide, by decide⟩ ⟨hc, hs⟩ rfl rfl (by decide) rfl (fun r wx' hr hx' hl' hfx => ?_)
  rw [← List.append_assoc]
  rcases hr with ⟨h, -⟩ | ⟨-, v, rfl⟩ | ⟨h, -⟩
  all_goals first | (exact absurd h (by decide)) | skip
  refine z_pop X d_lw_1143 rfl ?_
  refine z_aload_n X d_lw_1144 rfl 2 rfl ?_
  refine z_aload_n X d_lw_1145 rfl 0 rfl ?_
  refine z_iload X d_lw_1146 4 rfl ?_
  refine z_iconst X d_lw_1148 (v := 1) (by decide) ?_
  refine z_iadd X d_lw_1149 ?_
  refine z_sld X hX hbl hbA (lw_in hi0 hi1 (k := 1) (by decide) (by decide)) d_lw_1150 (v := xs (i + 1).toNatClampNeg) rfl ?_
  refine z_aload_n X d_lw_1151 rfl 0 rfl ?_
  refine z_iload X d_lw_1152 4 rfl ?_
  refine z_iconst X d_lw_1154 (v := 2) (by decide) ?_
  refine z_iadd X d_lw_1155 ?_
  refine z_sld X hX hbl hbA (lw_in hi0 hi1 (k := 2) (by decide) (by decide)) d_lw_1156 (v := xs (i + 2).toNatClampNeg) rfl ?_
  refine z_aload_n X d_lw_1157 rfl 0 rfl ?_
  refine z_iload X d_lw_1158 4 rfl ?_
  refine z_iconst X d_lw_1160 (v := 3) (by decide) ?_
  refine z_iadd X d_lw_1161 ?_
  refine z_sld X hX hbl hbA (lw_in hi0 hi1 (k := 3) (by decide) (by decide)) d_lw_1162 (v := xs (i + 3).toNatClampNeg) rfl ?_
  refine z_aload_n X d_lw_1163 rfl 0 rfl ?_
  refine z_iload X d_lw_1164 4 rfl ?_
  refine z_iconst X d_lw_1166 (v := 4) (by decide) ?_
  refine z_iadd X d_lw_1167 ?_
  refine z_sld X hX hbl hbA (lw_in hi0 hi1 (k := 4) (by decide) (by decide)) d_lw_1168 (v := xs (i + 4).toNatClampNeg) rfl ?_
  refine mx_callF (k := 0) (wa := wx') (rest := []) (As := [.int (xs (i + 1).toNatClampNeg), .int (xs (i + 2).toNatClampNeg), .int (xs (i + 3).toNatClampNeg), .int (xs (i + 4).toNatClampNeg)]) (μ := (fun k => ((Value.ref y :: [.int (xs (i + 1).toNatClampNeg), .int (xs (i + 2).toNatClampNeg), .int (xs (i + 3).toNatClampNeg), .int (xs (i + 4).toNatClampNeg)])[k]?).getD .null)) X k_L_131 (ac_X11_men_0 l G) (by decide) (by decide) hy (fun ad w0 he => pre_mu (C := C_X11_men_0) (ts := [tI0, tI0, tI0, tI0]) (As := [.int (xs (i + 1).toNatClampNeg), .int (xs (i + 2).toNatClampNeg), .int (xs (i + 3).toNatClampNeg), .int (xs (i + 4).toNatClampNeg)]) rfl rfl rfl rfl ⟨fun _ => vty_i0 _, fun _ => vty_i0 _, fun _ => vty_i0 _, fun _ => vty_i0 _, trivial⟩ ad w0 he) rfl d_lw_1169 ⟨by decide, by decide⟩ ⟨hc, hs⟩ rfl rfl (Nat.le_of_ble_eq_true rfl) rfl (fun r wm' hr hy' hfm => ?_)
  rcases hr with ⟨h, -⟩ | ⟨-, v, rfl⟩ | ⟨h, -⟩
  all_goals first | (exact absurd h (by decide)) | skip
  refine z_pop X d_lw_1172 rfl ?_
  refine z_goto X d_lw_1173 (tgt := 2192) (by decide) ?_
  exact hK wx' wm' hx' hl' hy' (RelQ.of (hR.m.keep hfx hfm (by decide)) (hR.a.keep hfx hfm (by decide)) (hR.d.keep hfx hfm (by decide)) (hR.c.keep hfx hfm (by decide)) (hR.x.keep hfx hfm (by decide)) (hR.b.keep hfx hfm (by decide)) (hR.h.keep hfx hfm (by decide)) (hR.t.keep hfx hfm (by decide)) (hR.k.keep hfx hfm (by decide)))
theorem lc_25 (X : ZC p s m #[Value.ref b] meth c code 8 RL G (fun q : Nat => s.heap.size ≤ q) ret nm) (hX : va_X b L xs s s.heap) (hbl : b < s.heap.size) (hbA : ¬ s.heap.size ≤ b) (hi0 : 0 ≤ i.toInt) (hi1 : i.toInt + 10 ≤ (L : Int) ∧ L ≤ 5120) (hx : CWx G x wx) (hy : MWx G y wm) (hR : RelQ G wx wm) (hc : kc ≤ room_1.cells) (hs : ks ≤ room_1.slots) (hK : ∀ wx' wm', CWx G x wx' → wx'.length = wx.length → MWx G y wm' → RelQ G wx' wm' → Z p l e room_1 s m #[Value.ref b] below meth c 8 G (fun q : Nat => s.heap.size ≤ q) (lw_Z below #[Value.ref b] s) 2192 (lv5 b x y o i) [] (wx' ++ wm' ++ [(o, aJ G 1 f)]) kc ks) : Z p l e room_1 s m #[Value.ref b] below meth c 8 G (fun q : Nat => s.heap.size ≤ q) (lw_Z below #[Value.ref b] s) 1176 (lv5 b x y o i) [] (wx ++ wm ++ [(o, aJ G 1 f)]) kc ks := by
  refine z_aload_n X d_lw_1176 rfl 1 rfl ?_
  refine z_aload_n X d_lw_1177 rfl 0 rfl ?_
  refine z_iload X d_lw_1178 4 rfl ?_
  refine z_iconst X d_lw_1180 (v := 1) (by decide) ?_
  refine z_iadd X d_lw_1181 ?_
  refine z_sld X hX hbl hbA (lw_in hi0 hi1 (k := 1) (by decide) (by decide)) d_lw_1182 (v := xs (i + 1).toNatClampNeg) rfl ?_
  rw [List.append_assoc]
  refine cx_callF (k := 1) (rest := []) (As := [.int (xs (i + 1).toNatClampNeg)]) (μ := (fun k => ((Value.ref x :: [.int (xs (i + 1).toNatClampNeg)])[k]?).getD .null)) X k_L_132 (ac_X10_rest_0 l G) (by decide) (by decide) (by decide) hx (fun ad w0 he => pre_mu (C := C_X10_rest_0) (ts := [tI0]) (As := [.int (xs (i + 1).toNatClampNeg)]) rfl rfl rfl rfl ⟨fun _ => vty_i0 _, trivial⟩ ad w0 he) rfl d_lw_1183 ⟨by decide, by decide⟩ ⟨hc, hs⟩ rfl rfl (by decide) rfl (fun r wx' hr hx' hl' hfx => ?_)
  rw [← List.append_assoc]
  rcases hr with ⟨h, -⟩ | ⟨h, -⟩ | ⟨-, v, rfl⟩
  all_goals first | (exact absurd h (by decide)) | skip
  refine z_pop2 X d_lw_1186 rfl ?_
  refine z_aload_n X d_lw_1187 rfl 2 rfl ?_
  refine z_aload_n X d_lw_1188 rfl 0 rfl ?_
  refine z_iload X d_lw_1189 4 rfl ?_
  refine z_iconst X d_lw_1191 (v := 1) (by decide) ?_
  refine z_iadd X d_lw_1192 ?_
  refine z_sld X hX hbl hbA (lw_in hi0 hi1 (k := 1) (by decide) (by decide)) d_lw_1193 (v := xs (i + 1).toNatClampNeg) rfl ?_
  refine mx_callF (k := 1) (wa := wx') (rest := []) (As := [.int (xs (i + 1).toNatClampNeg)]) (μ := (fun k => ((Value.ref y :: [.int (xs (i + 1).toNatClampNeg)])[k]?).getD .null)) X k_L_135 (ac_X11_rest_0 l G) (by decide) (by decide) hy (fun ad w0 he => pre_mu (C := C_X11_rest_0) (ts := [tI0]) (As := [.int (xs (i + 1).toNatClampNeg)]) rfl rfl rfl rfl ⟨fun _ => vty_i0 _, trivial⟩ ad w0 he) rfl d_lw_1194 ⟨by decide, by decide⟩ ⟨hc, hs⟩ rfl rfl (Nat.le_of_ble_eq_true rfl) rfl (fun r wm' hr hy' hfm => ?_)
  rcases hr with ⟨h, -⟩ | ⟨h, -⟩ | ⟨-, v, rfl⟩
  all_goals first | (exact absurd h (by decide)) | skip
  refine z_pop2 X d_lw_1197 rfl ?_
  refine z_goto X d_lw_1198 (tgt := 2192) (by decide) ?_
  exact hK wx' wm' hx' hl' hy' (RelQ.of (hR.m.keep hfx hfm (by decide)) (hR.a.keep hfx hfm (by decide)) (hR.d.keep hfx hfm (by decide)) (hR.c.keep hfx hfm (by decide)) (hR.x.keep hfx hfm (by decide)) (hR.b.keep hfx hfm (by decide)) (hR.h.keep hfx hfm (by decide)) (hR.t.keep hfx hfm (by decide)) (hR.k.keep hfx hfm (by decide)))
theorem lc_26 (X : ZC p s m #[Value.ref b] meth c code 8 RL G (fun q : Nat => s.heap.size ≤ q) ret nm) (hX : va_X b L xs s s.heap) (hbl : b < s.heap.size) (hbA : ¬ s.heap.size ≤ b) (hi0 : 0 ≤ i.toInt) (hi1 : i.toInt + 10 ≤ (L : Int) ∧ L ≤ 5120) (hx : CWx G x wx) (hy : MWx G y wm) (hR : RelQ G wx wm) (hc : kc ≤ room_1.cells) (hs : ks ≤ room_1.slots) (hK : ∀ wx' wm', CWx G x wx' → wx'.length = wx.length → MWx G y wm' → RelQ G wx' wm' → Z p l e room_1 s m #[Value.ref b] below meth c 8 G (fun q : Nat => s.heap.size ≤ q) (lw_Z below #[Value.ref b] s) 2192 (lv5 b x y o i) [] (wx' ++ wm' ++ [(o, aJ G 1 f)]) kc ks) : Z p l e room_1 s m #[Value.ref b] below meth c 8 G (fun q : Nat => s.heap.size ≤ q) (lw_Z below #[Value.ref b] s) 1201 (lv5 b x y o i) [] (wx ++ wm ++ [(o, aJ G 1 f)]) kc ks := by
  refine z_aload_n X d_lw_1201 rfl 1 rfl ?_
  refine z_aload_n X d_lw_1202 rfl 0 rfl ?_
  refine z_iload X d_lw_1203 4 rfl ?_
  refine z_iconst X d_lw_1205 (v := 1) (by decide) ?_
  refine z_iadd X d_lw_1206 ?_
  refine z_sld X hX hbl hbA (lw_in hi0 hi1 (k := 1) (by decide) (by decide)) d_lw_1207 (v := xs (i + 1).toNatClampNeg) rfl ?_
  refine z_aload_n X d_lw_1208 rfl 0 rfl ?_
  refine z_iload X d_lw_1209 4 rfl ?_
  refine z_iconst X d_lw_1211 (v := 2) (by decide) ?_
  refine z_iadd X d_lw_1212 ?_
  refine z_sld X hX hbl hbA (lw_in hi0 hi1 (k := 2) (by decide) (by decide)) d_lw_1213 (v := xs (i + 2).toNatClampNeg) rfl ?_
  rw [List.append_assoc]
  refine cx_callF (k := 1) (rest := []) (As := [.int (xs (i + 1).toNatClampNeg), .int (xs (i + 2).toNatClampNeg)]) (μ := (fun k => ((Value.ref x :: [.int (xs (i + 1).toNatClampNeg), .int (xs (i + 2).toNatClampNeg)])[k]?).getD .null)) X k_L_136 (ac_t_X10_best_0 l G) (by decide) (by decide) (by decide) hx (fun ad w0 he => pre_mu (C := C_t_X10_best_0) (ts := [tI0, tI0]) (As := [.int (xs (i + 1).toNatClampNeg), .int (xs (i + 2).toNatClampNeg)]) rfl rfl rfl rfl ⟨fun _ => vty_i0 _, fun _ => vty_i0 _, trivial⟩ ad w0 he) rfl d_lw_1214 ⟨by decide, by decide⟩ ⟨hc, hs⟩ rfl rfl (by decide) rfl (fun r wx' hr hx' hl' hfx => ?_)
  rw [← List.append_assoc]
  rcases hr with ⟨h, -⟩ | ⟨h, -⟩ | ⟨-, v, rfl⟩
  all_goals first | (exact absurd h (by decide)) | skip
  refine z_pop2 X d_lw_1217 rfl ?_
  refine z_aload_n X d_lw_1218 rfl 2 rfl ?_
  refine z_aload_n X d_lw_1219 rfl 0 rfl ?_
  refine z_iload X d_lw_1220 4 rfl ?_
  refine z_iconst X d_lw_1222 (v := 1) (by decide) ?_
  refine z_iadd X d_lw_1223 ?_
  refine z_sld X hX hbl hbA (lw_in hi0 hi1 (k := 1) (by decide) (by decide)) d_lw_1224 (v := xs (i + 1).toNatClampNeg) rfl ?_
  refine z_aload_n X d_lw_1225 rfl 0 rfl ?_
  refine z_iload X d_lw_1226 4 rfl ?_
  refine z_iconst X d_lw_1228 (v := 2) (by decide) ?_
  refine z_iadd X d_lw_1229 ?_
  refine z_sld X hX hbl hbA (lw_in hi0 hi1 (k := 2) (by decide) (by decide)) d_lw_1230 (v := xs (i + 2).toNatClampNeg) rfl ?_
  refine mx_callF (k := 1) (wa := wx') (rest := []) (As := [.int (xs (i + 1).toNatClampNeg), .int (xs (i + 2).toNatClampNeg)]) (μ := (fun k => ((Value.ref y :: [.int (xs (i + 1).toNatClampNeg), .int (xs (i + 2).toNatClampNeg)])[k]?).getD .null)) X k_L_140 (ac_X11_best_0 l G) (by decide) (by decide) hy (fun ad w0 he => pre_mu (C := C_X11_best_0) (ts := [tI0, tI0]) (As := [.int (xs (i + 1).toNatClampNeg), .int (xs (i + 2).toNatClampNeg)]) rfl rfl rfl rfl ⟨fun _ => vty_i0 _, fun _ => vty_i0 _, trivial⟩ ad w0 he) rfl d_lw_1231 ⟨by decide, by decide⟩ ⟨hc, hs⟩ rfl rfl (Nat.le_of_ble_eq_true rfl) rfl (fun r wm' hr hy' hfm => ?_)
  rcases hr with ⟨h, -⟩ | ⟨h, -⟩ | ⟨-, v, rfl⟩
  all_goals first | (exact absurd h (by decide)) | skip
  refine z_pop2 X d_lw_1234 rfl ?_
  refine z_goto X d_lw_1235 (tgt := 2192) (by decide) ?_
  exact hK wx' wm' hx' hl' hy' (RelQ.of (hR.m.keep hfx hfm (by decide)) (hR.a.keep hfx hfm (by decide)) (hR.d.keep hfx hfm (by decide)) (hR.c.keep hfx hfm (by decide)) (hR.x.keep hfx hfm (by decide)) (hR.b.keep hfx hfm (by decide)) (hR.h.keep hfx hfm (by decide)) (hR.t.keep hfx hfm (by decide)) (hR.k.keep hfx hfm (by decide)))
theorem lc_27 (X : ZC p s m #[Value.ref b] meth c code 8 RL G (fun q : Nat => s.heap.size ≤ q) ret nm) (hX : va_X b L xs s s.heap) (hbl : b < s.heap.size) (hbA : ¬ s.heap.size ≤ b) (hi0 : 0 ≤ i.toInt) (hi1 : i.toInt + 10 ≤ (L : Int) ∧ L ≤ 5120) (hx : CWx G x wx) (hy : MWx G y wm) (hR : RelQ G wx wm) (hc : kc ≤ room_1.cells) (hs : ks ≤ room_1.slots) (hK : ∀ wx' wm', CWx G x wx' → wx'.length = wx.length → MWx G y wm' → RelQ G wx' wm' → Z p l e room_1 s m #[Value.ref b] below meth c 8 G (fun q : Nat => s.heap.size ≤ q) (lw_Z below #[Value.ref b] s) 2192 (lv5 b x y o i) [] (wx' ++ wm' ++ [(o, aJ G 1 f)]) kc ks) : Z p l e room_1 s m #[Value.ref b] below meth c 8 G (fun q : Nat => s.heap.size ≤ q) (lw_Z below #[Value.ref b] s) 1238 (lv5 b x y o i) [] (wx ++ wm ++ [(o, aJ G 1 f)]) kc ks := by
  refine z_aload_n X d_lw_1238 rfl 1 rfl ?_
  refine z_aload_n X d_lw_1239 rfl 0 rfl ?_
  refine z_iload X d_lw_1240 4 rfl ?_
  refine z_iconst X d_lw_1242 (v := 1) (by decide) ?_
  refine z_iadd X d_lw_1243 ?_
  refine z_sld X hX hbl hbA (lw_in hi0 hi1 (k := 1) (by decide) (by decide)) d_lw_1244 (v := xs (i + 1).toNatClampNeg) rfl ?_
  refine z_aload_n X d_lw_1245 rfl 0 rfl ?_
  refine z_iload X d_lw_1246 4 rfl ?_
  refine z_iconst X d_lw_1248 (v := 2) (by decide) ?_
  refine z_iadd X d_lw_1249 ?_
  refine z_sld X hX hbl hbA (lw_in hi0 hi1 (k := 2) (by decide) (by decide)) d_lw_1250 (v := xs (i + 2).toNatClampNeg) rfl ?_
  rw [List.append_assoc]
  refine cx_callF (k := 1) (rest := []) (As := [.int (xs (i + 1).toNatClampNeg), .int (xs (i + 2).toNatClampNeg)]) (μ := (fun k => ((Value.ref x :: [.int (xs (i + 1).toNatClampNeg), .int (xs (i + 2).toNatClampNeg)])[k]?).getD .null)) X k_L_141 (ac_t_X10_off_0 l G) (by decide) (by decide) (by decide) hx (fun ad w0 he => pre_mu (C := C_t_X10_off_0) (ts := [tI0, tI0]) (As := [.int (xs (i + 1).toNatClampNeg), .int (xs (i + 2).toNatClampNeg)]) rfl rfl rfl rfl ⟨fun _ => vty_i0 _, fun _ => vty_i0 _, trivial⟩ ad w0 he) rfl d_lw_1251 ⟨by decide, by decide⟩ ⟨hc, hs⟩ rfl rfl (by decide) rfl (fun r wx' hr hx' hl' hfx => ?_)
  rw [← List.append_assoc]
  rcases hr with ⟨h, -⟩ | ⟨h, -⟩ | ⟨-, v, rfl⟩
  all_goals first | (exact absurd h (by decide)) | skip
  refine z_pop2 X d_lw_1254 rfl ?_
  refine z_aload_n X d_lw_1255 rfl 2 rfl ?_
  refine z_aload_n X d_lw_1256 rfl 0 rfl ?_
  refine z_iload X d_lw_1257 4 rfl ?_
  refine z_iconst X d_lw_1259 (v := 1) (by decide) ?_
  refine z_iadd X d_lw_1260 ?_
  refine z_sld X hX hbl hbA (lw_in hi0 hi1 (k := 1) (by decide) (by decide)) d_lw_1261 (v := xs (i + 1).toNatClampNeg) rfl ?_
  refine z_aload_n X d_lw_1262 rfl 0 rfl ?_
  refine z_iload X d_lw_1263 4 rfl ?_
  refine z_iconst X d_lw_1265 (v := 2) (by decide) ?_
  refine z_iadd X d_lw_1266 ?_
  refine z_sld X hX hbl hbA (lw_in hi0 hi1 (k := 2) (by decide) (by decide)) d_lw_1267 (v := xs (i + 2).toNatClampNeg) rfl ?_
  refine mx_callF (k := 1) (wa := wx') (rest := []) (As := [.int (xs (i + 1).toNatClampNeg), .int (xs (i + 2).toNatClampNeg)]) (μ := (fun k => ((Value.ref y :: [.int (xs (i + 1).toNatClampNeg), .int (xs (i + 2).toNatClampNeg)])[k]?).getD .null)) X k_L_144 (ac_offq l G) (by decide) (by decide) hy (fun ad w0 he => pre_mu (C := C_offq) (ts := [tI0, tI0]) (As := [.int (xs (i + 1).toNatClampNeg), .int (xs (i + 2).toNatClampNeg)]) rfl rfl rfl rfl ⟨fun _ => vty_i0 _, fun _ => vty_i0 _, trivial⟩ ad w0 he) rfl d_lw_1268 ⟨by decide, by decide⟩ ⟨hc, hs⟩ rfl rfl (Nat.le_of_ble_eq_true rfl) rfl (fun r wm' hr hy' hfm => ?_)
  rcases hr with ⟨h, -⟩ | ⟨h, -⟩ | ⟨-, v, rfl⟩
  all_goals first | (exact absurd h (by decide)) | skip
  refine z_pop2 X d_lw_1271 rfl ?_
  refine z_goto X d_lw_1272 (tgt := 2192) (by decide) ?_
  exact hK wx' wm' hx' hl' hy' (RelQ.of (hR.m.keep hfx hfm (by decide)) (hR.a.keep hfx hfm (by decide)) (hR.d.keep hfx hfm (by decide)) (hR.c.keep hfx hfm (by decide)) (hR.x.keep hfx hfm (by decide)) (hR.b.keep hfx hfm (by decide)) (hR.h.keep hfx hfm (by decide)) (hR.t.keep hfx hfm (by decide)) (hR.k.keep hfx hfm (by decide)))
theorem lc_28 (X : ZC p s m #[Value.ref b] meth c code 8 RL G (fun q : Nat => s.heap.size ≤ q) ret nm) (hX : va_X b L xs s s.heap) (hbl : b < s.heap.size) (hbA : ¬ s.heap.size ≤ b) (hi0 : 0 ≤ i.toInt) (hi1 : i.toInt + 10 ≤ (L : Int) ∧ L ≤ 5120) (hx : CWx G x wx) (hy : MWx G y wm) (hR : RelQ G wx wm) (hc : kc ≤ room_1.cells) (hs : ks ≤ room_1.slots) (hK : ∀ wx' wm', CWx G x wx' → wx'.length = wx.length → MWx G y wm' → RelQ G wx' wm' → Z p l e room_1 s m #[Value.ref b] below meth c 8 G (fun q : Nat => s.heap.size ≤ q) (lw_Z below #[Value.ref b] s) 2192 (lv5 b x y o i) [] (wx' ++ wm' ++ [(o, aJ G 1 f)]) kc ks) : Z p l e room_1 s m #[Value.ref b] below meth c 8 G (fun q : Nat => s.heap.size ≤ q) (lw_Z below #[Value.ref b] s) 1275 (lv5 b x y o i) [] (wx ++ wm ++ [(o, aJ G 1 f)]) kc ks := by
  refine z_aload_n X d_lw_1275 rfl 1 rfl ?_
  refine z_aload_n X d_lw_1276 rfl 0 rfl ?_
  refine z_iload X d_lw_1277 4 rfl ?_
  refine z_iconst X d_lw_1279 (v := 1) (by decide) ?_
  refine z_iadd X d_lw_1280 ?_
  refine z_sld X hX hbl hbA (lw_in hi0 hi1 (k := 1) (by decide) (by decide)) d_lw_1281 (v := xs (i + 1).toNatClampNeg) rfl ?_
  refine z_aload_n X d_lw_1282 rfl 0 rfl ?_
  refine z_iload X d_lw_1283 4 rfl ?_
  refine z_iconst X d_lw_1285 (v := 2) (by decide) ?_
  refine z_iadd X d_lw_1286 ?_
  refine z_sld X hX hbl hbA (lw_in hi0 hi1 (k := 2) (by decide) (by decide)) d_lw_1287 (v := xs (i + 2).toNatClampNeg) rfl ?_
  rw [List.append_assoc]
  refine cx_callF (k := 1) (rest := []) (As := [.int (xs (i + 1).toNatClampNeg), .int (xs (i + 2).toNatClampNeg)]) (μ := (fun k => ((Value.ref x :: [.int (xs (i + 1).toNatClampNeg), .int (xs (i + 2).toNatClampNeg)])[k]?).getD .null)) X k_L_145 (ac_t_X10_instead_0 l G) (by decide) (by decide) (by decide) hx (fun ad w0 he => pre_mu (C := C_t_X10_instead_0) (ts := [tI0, tI0]) (As := [.int (xs (i + 1).toNatClampNeg), .int (xs (i + 2).toNatClampNeg)]) rfl rfl rfl rfl ⟨fun _ => vty_i0 _, fun _ => vty_i0 _, trivial⟩ ad w0 he) rfl d_lw_1288 ⟨by decide, by decide⟩ ⟨hc, hs⟩ rfl rfl (by decide) rfl (fun r wx' hr hx' hl' hfx => ?_)
  rw [← List.append_assoc]
  rcases hr with ⟨h, -⟩ | ⟨h, -⟩ | ⟨-, v, rfl⟩
  all_goals first | (exact absurd h (by decide)) | skip
  refine z_pop2 X d_lw_1291 rfl ?_
  refine z_aload_n X d_lw_1292 rfl 2 rfl ?_
  refine z_aload_n X d_lw_1293 rfl 0 rfl ?_
  refine z_iload X d_lw_1294 4 rfl ?_
  refine z_iconst X d_lw_1296 (v := 1) (by decide) ?_
  refine z_iadd X d_lw_1297 ?_
  refine z_sld X hX hbl hbA (lw_in hi0 hi1 (k := 1) (by decide) (by decide)) d_lw_1298 (v := xs (i + 1).toNatClampNeg) rfl ?_
  refine z_aload_n X d_lw_1299 rfl 0 rfl ?_
  refine z_iload X d_lw_1300 4 rfl ?_
  refine z_iconst X d_lw_1302 (v := 2) (by decide) ?_
  refine z_iadd X d_lw_1303 ?_
  refine z_sld X hX hbl hbA (lw_in hi0 hi1 (k := 2) (by decide) (by decide)) d_lw_1304 (v := xs (i + 2).toNatClampNeg) rfl ?_
  refine mx_callF (k := 1) (wa := wx') (rest := []) (As := [.int (xs (i + 1).toNatClampNeg), .int (xs (i + 2).toNatClampNeg)]) (μ := (fun k => ((Value.ref y :: [.int (xs (i + 1).toNatClampNeg), .int (xs (i + 2).toNatClampNeg)])[k]?).getD .null)) X k_L_148 (ac_X11_instead_0 l G) (by decide) (by decide) hy (fun ad w0 he => pre_mu (C := C_X11_instead_0) (ts := [tI0, tI0]) (As := [.int (xs (i + 1).toNatClampNeg), .int (xs (i + 2).toNatClampNeg)]) rfl rfl rfl rfl ⟨fun _ => vty_i0 _, fun _ => vty_i0 _, trivial⟩ ad w0 he) rfl d_lw_1305 ⟨by decide, by decide⟩ ⟨hc, hs⟩ rfl rfl (Nat.le_of_ble_eq_true rfl) rfl (fun r wm' hr hy' hfm => ?_)
  rcases hr with ⟨h, -⟩ | ⟨h, -⟩ | ⟨-, v, rfl⟩
  all_goals first | (exact absurd h (by decide)) | skip
  refine z_pop2 X d_lw_1308 rfl ?_
  refine z_goto X d_lw_1309 (tgt := 2192) (by decide) ?_
  exact hK wx' wm' hx' hl' hy' (RelQ.of (hR.m.keep hfx hfm (by decide)) (hR.a.keep hfx hfm (by decide)) (hR.d.keep hfx hfm (by decide)) (hR.c.keep hfx hfm (by decide)) (hR.x.keep hfx hfm (by decide)) (hR.b.keep hfx hfm (by decide)) (hR.h.keep hfx hfm (by decide)) (hR.t.keep hfx hfm (by decide)) (hR.k.keep hfx hfm (by decide)))
theorem lc_29 (X : ZC p s m #[Value.ref b] meth c code 8 RL G (fun q : Nat => s.heap.size ≤ q) ret nm) (hX : va_X b L xs s s.heap) (hbl : b < s.heap.size) (hbA : ¬ s.heap.size ≤ b) (hi0 : 0 ≤ i.toInt) (hi1 : i.toInt + 10 ≤ (L : Int) ∧ L ≤ 5120) (hx : CWx G x wx) (hy : MWx G y wm) (hR : RelQ G wx wm) (hc : kc ≤ room_1.cells) (hs : ks ≤ room_1.slots) (hK : ∀ wx' wm', CWx G x wx' → wx'.length = wx.length → MWx G y wm' → RelQ G wx' wm' → Z p l e room_1 s m #[Value.ref b] below meth c 8 G (fun q : Nat => s.heap.size ≤ q) (lw_Z below #[Value.ref b] s) 2192 (lv5 b x y o i) [] (wx' ++ wm' ++ [(o, aJ G 1 f)]) kc ks) : Z p l e room_1 s m #[Value.ref b] below meth c 8 G (fun q : Nat => s.heap.size ≤ q) (lw_Z below #[Value.ref b] s) 1312 (lv5 b x y o i) [] (wx ++ wm ++ [(o, aJ G 1 f)]) kc ks := by
  refine z_aload_n X d_lw_1312 rfl 1 rfl ?_
  refine z_aload_n X d_lw_1313 rfl 0 rfl ?_
  refine z_iload X d_lw_1314 4 rfl ?_
  refine z_iconst X d_lw_1316 (v := 1) (by decide) ?_
  refine z_iadd X d_lw_1317 ?_
  refine z_sld X hX hbl hbA (lw_in hi0 hi1 (k := 1) (by decide) (by decide)) d_lw_1318 (v := xs (i + 1).toNatClampNeg) rfl ?_
  refine z_aload_n X d_lw_1319 rfl 0 rfl ?_
  refine z_iload X d_lw_1320 4 rfl ?_
  refine z_iconst X d_lw_1322 (v := 2) (by decide) ?_
  refine z_iadd X d_lw_1323 ?_
  refine z_sld X hX hbl hbA (lw_in hi0 hi1 (k := 2) (by decide) (by decide)) d_lw_1324 (v := xs (i + 2).toNatClampNeg) rfl ?_
  refine z_i2l X d_lw_1325 rfl ?_
  refine z_bipush X d_lw_1326 (v := 32) (by decide) ?_
  refine z_lshl X d_lw_1328 (v := (((xs (i + 2).toNatClampNeg).toInt64) <<< (((32 : Int32)).toInt64 &&& 63))) rfl ?_
  refine z_aload_n X d_lw_1329 rfl 0 rfl ?_
  refine z_iload X d_lw_1330 4 rfl ?_
  refine z_iconst X d_lw_1332 (v := 3) (by decide) ?_
  refine z_iadd X d_lw_1333 ?_
  refine z_sld X hX hbl hbA (lw_in hi0 hi1 (k := 3) (by decide) (by decide)) d_lw_1334 (v := xs (i + 3).toNatClampNeg) rfl ?_
  refine z_i2l X d_lw_1335 rfl ?_
  refine z_ldc2 X d_lw_1336 (v := 4294967295) cn_L_149 ?_
  refine z_land X d_lw_1339 ?_
  refine z_lor X d_lw_1340 ?_
  rw [List.append_assoc]
  refine cx_callF (k := 0) (rest := []) (As := [.int (xs (i + 1).toNatClampNeg), .long ((((((xs (i + 2).toNatClampNeg).toInt64) <<< (((32 : Int32)).toInt64 &&& 63))) ||| ((((xs (i + 3).toNatClampNeg).toInt64) &&& ((4294967295 : Int64))))))]) (μ := (fun k => ((Value.ref x :: [.int (xs (i + 1).toNatClampNeg), .long ((((((xs (i + 2).toNatClampNeg).toInt64) <<< (((32 : Int32)).toInt64 &&& 63))) ||| ((((xs (i + 3).toNatClampNeg).toInt64) &&& ((4294967295 : Int64))))))])[k]?).getD .null)) X k_L_151 (ac_t_X10_fewest_0 l G) (by decide) (by decide) (by decide) hx (fun ad w0 he => pre_mu (C := C_t_X10_fewest_0) (ts := [tI0, tL0]) (As := [.int (xs (i + 1).toNatClampNeg), .long ((((((xs (i + 2).toNatClampNeg).toInt64) <<< (((32 : Int32)).toInt64 &&& 63))) ||| ((((xs (i + 3).toNatClampNeg).toInt64) &&& ((4294967295 : Int64))))))]) rfl rfl rfl rfl ⟨fun _ => vty_i0 _, fun _ => vty_l0 _, trivial⟩ ad w0 he) rfl d_lw_1341 ⟨by decide, by decide⟩ ⟨hc, hs⟩ rfl rfl (by decide) rfl (fun r wx' hr hx' hl' hfx => ?_)
  rw [← List.append_assoc]
  rcases hr with ⟨h, -⟩ | ⟨-, v, rfl⟩ | ⟨h, -⟩
  all_goals first | (exact absurd h (by decide)) | skip
  refine z_pop X d_lw_1344 rfl ?_
  refine z_aload_n X d_lw_1345 rfl 2 rfl ?_
  refine z_aload_n X d_lw_1346 rfl 0 rfl ?_
  refine z_iload X d_lw_1347 4 rfl ?_
  refine z_iconst X d_lw_1349 (v := 1) (by decide) ?_
  refine z_iadd X d_lw_1350 ?_
  refine z_sld X hX hbl hbA (lw_in hi0 hi1 (k := 1) (by decide) (by decide)) d_lw_1351 (v := xs (i + 1).toNatClampNeg) rfl ?_
  refine z_aload_n X d_lw_1352 rfl 0 rfl ?_
  refine z_iload X d_lw_1353 4 rfl ?_
  refine z_iconst X d_lw_1355 (v := 2) (by decide) ?_
  refine z_iadd X d_lw_1356 ?_
  refine z_sld X hX hbl hbA (lw_in hi0 hi1 (k := 2) (by decide) (by decide)) d_lw_1357 (v := xs (i + 2).toNatClampNeg) rfl ?_
  refine z_i2l X d_lw_1358 rfl ?_
  refine z_bipush X d_lw_1359 (v := 32) (by decide) ?_
  refine z_lshl X d_lw_1361 (v := (((xs (i + 2).toNatClampNeg).toInt64) <<< (((32 : Int32)).toInt64 &&& 63))) rfl ?_
  refine z_aload_n X d_lw_1362 rfl 0 rfl ?_
  refine z_iload X d_lw_1363 4 rfl ?_
  refine z_iconst X d_lw_1365 (v := 3) (by decide) ?_
  refine z_iadd X d_lw_1366 ?_
  refine z_sld X hX hbl hbA (lw_in hi0 hi1 (k := 3) (by decide) (by decide)) d_lw_1367 (v := xs (i + 3).toNatClampNeg) rfl ?_
  refine z_i2l X d_lw_1368 rfl ?_
  refine z_ldc2 X d_lw_1369 (v := 4294967295) cn_L_149 ?_
  refine z_land X d_lw_1372 ?_
  refine z_lor X d_lw_1373 ?_
  refine mx_callF (k := 0) (wa := wx') (rest := []) (As := [.int (xs (i + 1).toNatClampNeg), .long ((((((xs (i + 2).toNatClampNeg).toInt64) <<< (((32 : Int32)).toInt64 &&& 63))) ||| ((((xs (i + 3).toNatClampNeg).toInt64) &&& ((4294967295 : Int64))))))]) (μ := (fun k => ((Value.ref y :: [.int (xs (i + 1).toNatClampNeg), .long ((((((xs (i + 2).toNatClampNeg).toInt64) <<< (((32 : Int32)).toInt64 &&& 63))) ||| ((((xs (i + 3).toNatClampNeg).toInt64) &&& ((4294967295 : Int64))))))])[k]?).getD .null)) X k_L_155 (ac_X11_fewest_0 l G) (by decide) (by decide) hy (fun ad w0 he => pre_mu (C := C_X11_fewest_0) (ts := [tI0, tL0]) (As := [.int (xs (i + 1).toNatClampNeg), .long ((((((xs (i + 2).toNatClampNeg).toInt64) <<< (((32 : Int32)).toInt64 &&& 63))) ||| ((((xs (i + 3).toNatClampNeg).toInt64) &&& ((4294967295 : Int64))))))]) rfl rfl rfl rfl ⟨fun _ => vty_i0 _, fun _ => vty_l0 _, trivial⟩ ad w0 he) rfl d_lw_1374 ⟨by decide, by decide⟩ ⟨hc, hs⟩ rfl rfl (Nat.le_of_ble_eq_true rfl) rfl (fun r wm' hr hy' hfm => ?_)
  rcases hr with ⟨h, -⟩ | ⟨-, v, rfl⟩ | ⟨h, -⟩
  all_goals first | (exact absurd h (by decide)) | skip
  refine z_pop X d_lw_1377 rfl ?_
  refine z_goto X d_lw_1378 (tgt := 2192) (by decide) ?_
  exact hK wx' wm' hx' hl' hy' (RelQ.of (hR.m.keep hfx hfm (by decide)) (hR.a.keep hfx hfm (by decide)) (hR.d.keep hfx hfm (by decide)) (hR.c.keep hfx hfm (by decide)) (hR.x.keep hfx hfm (by decide)) (hR.b.keep hfx hfm (by decide)) (hR.h.keep hfx hfm (by decide)) (hR.t.keep hfx hfm (by decide)) (hR.k.keep hfx hfm (by decide)))
theorem lc_30 (X : ZC p s m #[Value.ref b] meth c code 8 RL G (fun q : Nat => s.heap.size ≤ q) ret nm) (hX : va_X b L xs s s.heap) (hbl : b < s.heap.size) (hbA : ¬ s.heap.size ≤ b) (hi0 : 0 ≤ i.toInt) (hi1 : i.toInt + 10 ≤ (L : Int) ∧ L ≤ 5120) (hx : CWx G x wx) (hy : MWx G y wm) (hR : RelQ G wx wm) (hc : kc ≤ room_1.cells) (hs : ks ≤ room_1.slots) (hK : ∀ wx' wm', CWx G x wx' → wx'.length = wx.length → MWx G y wm' → RelQ G wx' wm' → Z p l e room_1 s m #[Value.ref b] below meth c 8 G (fun q : Nat => s.heap.size ≤ q) (lw_Z below #[Value.ref b] s) 2192 (lv5 b x y o i) [] (wx' ++ wm' ++ [(o, aJ G 1 f)]) kc ks) : Z p l e room_1 s m #[Value.ref b] below meth c 8 G (fun q : Nat => s.heap.size ≤ q) (lw_Z below #[Value.ref b] s) 1381 (lv5 b x y o i) [] (wx ++ wm ++ [(o, aJ G 1 f)]) kc ks := by
  refine z_aload_n X d_lw_1381 rfl 1 rfl ?_
  refine z_aload_n X d_lw_1382 rfl 0 rfl ?_
  refine z_iload X d_lw_1383 4 rfl ?_
  refine z_iconst X d_lw_1385 (v := 1) (by decide) ?_
  refine z_iadd X d_lw_1386 ?_
  refine z_sld X hX hbl hbA (lw_in hi0 hi1 (k := 1) (by decide) (by decide)) d_lw_1387 (v := xs (i + 1).toNatClampNeg) rfl ?_
  refine z_aload_n X d_lw_1388 rfl 0 rfl ?_
  refine z_iload X d_lw_1389 4 rfl ?_
  refine z_iconst X d_lw_1391 (v := 2) (by decide) ?_
  refine z_iadd X d_lw_1392 ?_
  refine z_sld X hX hbl hbA (lw_in hi0 hi1 (k := 2) (by decide) (by decide)) d_lw_1393 (v := xs (i + 2).toNatClampNeg) rfl ?_
  rw [List.append_assoc]
  refine cx_callF (k := 1) (rest := []) (As := [.int (xs (i + 1).toNatClampNeg), .int (xs (i + 2).toNatClampNeg)]) (μ := (fun k => ((Value.ref x :: [.int (xs (i + 1).toNatClampNeg), .int (xs (i + 2).toNatClampNeg)])[k]?).getD .null)) X k_L_156 (ac_t_X10_all_0 l G) (by decide) (by decide) (by decide) hx (fun ad w0 he => pre_mu (C := C_t_X10_all_0) (ts := [tI0, tI0]) (As := [.int (xs (i + 1).toNatClampNeg), .int (xs (i + 2).toNatClampNeg)]) rfl rfl rfl rfl ⟨fun _ => vty_i0 _, fun _ => vty_i0 _, trivial⟩ ad w0 he) rfl d_lw_1394 ⟨by decide, by decide⟩ ⟨hc, hs⟩ rfl rfl (by decide) rfl (fun r wx' hr hx' hl' hfx => ?_)
  rw [← List.append_assoc]
  rcases hr with ⟨h, -⟩ | ⟨h, -⟩ | ⟨-, v, rfl⟩
  all_goals first | (exact absurd h (by decide)) | skip
  refine z_pop2 X d_lw_1397 rfl ?_
  refine z_aload_n X d_lw_1398 rfl 2 rfl ?_
  refine z_aload_n X d_lw_1399 rfl 0 rfl ?_
  refine z_iload X d_lw_1400 4 rfl ?_
  refine z_iconst X d_lw_1402 (v := 1) (by decide) ?_
  refine z_iadd X d_lw_1403 ?_
  refine z_sld X hX hbl hbA (lw_in hi0 hi1 (k := 1) (by decide) (by decide)) d_lw_1404 (v := xs (i + 1).toNatClampNeg) rfl ?_
  refine z_aload_n X d_lw_1405 rfl 0 rfl ?_
  refine z_iload X d_lw_1406 4 rfl ?_
  refine z_iconst X d_lw_1408 (v := 2) (by decide) ?_
  refine z_iadd X d_lw_1409 ?_
  refine z_sld X hX hbl hbA (lw_in hi0 hi1 (k := 2) (by decide) (by decide)) d_lw_1410 (v := xs (i + 2).toNatClampNeg) rfl ?_
  refine mx_callF (k := 1) (wa := wx') (rest := []) (As := [.int (xs (i + 1).toNatClampNeg), .int (xs (i + 2).toNatClampNeg)]) (μ := (fun k => ((Value.ref y :: [.int (xs (i + 1).toNatClampNeg), .int (xs (i + 2).toNatClampNeg)])[k]?).getD .null)) X k_L_159 (ac_X11_all_0 l G) (by decide) (by decide) hy (fun ad w0 he => pre_mu (C := C_X11_all_0) (ts := [tI0, tI0]) (As := [.int (xs (i + 1).toNatClampNeg), .int (xs (i + 2).toNatClampNeg)]) rfl rfl rfl rfl ⟨fun _ => vty_i0 _, fun _ => vty_i0 _, trivial⟩ ad w0 he) rfl d_lw_1411 ⟨by decide, by decide⟩ ⟨hc, hs⟩ rfl rfl (Nat.le_of_ble_eq_true rfl) rfl (fun r wm' hr hy' hfm => ?_)
  rcases hr with ⟨h, -⟩ | ⟨h, -⟩ | ⟨-, v, rfl⟩
  all_goals first | (exact absurd h (by decide)) | skip
  refine z_pop2 X d_lw_1414 rfl ?_
  refine z_goto X d_lw_1415 (tgt := 2192) (by decide) ?_
  exact hK wx' wm' hx' hl' hy' (RelQ.of (hR.m.keep hfx hfm (by decide)) (hR.a.keep hfx hfm (by decide)) (hR.d.keep hfx hfm (by decide)) (hR.c.keep hfx hfm (by decide)) (hR.x.keep hfx hfm (by decide)) (hR.b.keep hfx hfm (by decide)) (hR.h.keep hfx hfm (by decide)) (hR.t.keep hfx hfm (by decide)) (hR.k.keep hfx hfm (by decide)))
theorem lc_31 (X : ZC p s m #[Value.ref b] meth c code 8 RL G (fun q : Nat => s.heap.size ≤ q) ret nm) (hX : va_X b L xs s s.heap) (hbl : b < s.heap.size) (hbA : ¬ s.heap.size ≤ b) (hi0 : 0 ≤ i.toInt) (hi1 : i.toInt + 10 ≤ (L : Int) ∧ L ≤ 5120) (hx : CWx G x wx) (hy : MWx G y wm) (hR : RelQ G wx wm) (hc : kc ≤ room_1.cells) (hs : ks ≤ room_1.slots) (hK : ∀ wx' wm', CWx G x wx' → wx'.length = wx.length → MWx G y wm' → RelQ G wx' wm' → Z p l e room_1 s m #[Value.ref b] below meth c 8 G (fun q : Nat => s.heap.size ≤ q) (lw_Z below #[Value.ref b] s) 2192 (lv5 b x y o i) [] (wx' ++ wm' ++ [(o, aJ G 1 f)]) kc ks) : Z p l e room_1 s m #[Value.ref b] below meth c 8 G (fun q : Nat => s.heap.size ≤ q) (lw_Z below #[Value.ref b] s) 1418 (lv5 b x y o i) [] (wx ++ wm ++ [(o, aJ G 1 f)]) kc ks := by
  refine z_aload_n X d_lw_1418 rfl 1 rfl ?_
  refine z_aload_n X d_lw_1419 rfl 0 rfl ?_
  refine z_iload X d_lw_1420 4 rfl ?_
  refine z_iconst X d_lw_1422 (v := 1) (by decide) ?_
  refine z_iadd X d_lw_1423 ?_
  refine z_sld X hX hbl hbA (lw_in hi0 hi1 (k := 1) (by decide) (by decide)) d_lw_1424 (v := xs (i + 1).toNatClampNeg) rfl ?_
  refine z_aload_n X d_lw_1425 rfl 0 rfl ?_
  refine z_iload X d_lw_1426 4 rfl ?_
  refine z_iconst X d_lw_1428 (v := 2) (by decide) ?_
  refine z_iadd X d_lw_1429 ?_
  refine z_sld X hX hbl hbA (lw_in hi0 hi1 (k := 2) (by decide) (by decide)) d_lw_1430 (v := xs (i + 2).toNatClampNeg) rfl ?_
  rw [List.append_assoc]
  refine cx_callF (k := 0) (rest := []) (As := [.int (xs (i + 1).toNatClampNeg), .int (xs (i + 2).toNatClampNeg)]) (μ := (fun k => ((Value.ref x :: [.int (xs (i + 1).toNatClampNeg), .int (xs (i + 2).toNatClampNeg)])[k]?).getD .null)) X k_L_160 (ac_X10_ounce_0 l G) (by decide) (by decide) (by decide) hx (fun ad w0 he => pre_mu (C := C_X10_ounce_0) (ts := [tI0, tI0]) (As := [.int (xs (i + 1).toNatClampNeg), .int (xs (i + 2).toNatClampNeg)]) rfl rfl rfl rfl ⟨fun _ => vty_i0 _, fun _ => vty_i0 _, trivial⟩ ad w0 he) rfl d_lw_1431 ⟨by decide, by decide⟩ ⟨hc, hs⟩ rfl rfl (by decide) rfl (fun r wx' hr hx' hl' hfx => ?_)
  rw [← List.append_assoc]
  rcases hr with ⟨h, -⟩ | ⟨-, v, rfl⟩ | ⟨h, -⟩
  all_goals first | (exact absurd h (by decide)) | skip
  refine z_pop X d_lw_1434 rfl ?_
  refine z_aload_n X d_lw_1435 rfl 2 rfl ?_
  refine z_aload_n X d_lw_1436 rfl 0 rfl ?_
  refine z_iload X d_lw_1437 4 rfl ?_
  refine z_iconst X d_lw_1439 (v := 1) (by decide) ?_
  refine z_iadd X d_lw_1440 ?_
  refine z_sld X hX hbl hbA (lw_in hi0 hi1 (k := 1) (by decide) (by decide)) d_lw_1441 (v := xs (i + 1).toNatClampNeg) rfl ?_
  refine z_aload_n X d_lw_1442 rfl 0 rfl ?_
  refine z_iload X d_lw_1443 4 rfl ?_
  refine z_iconst X d_lw_1445 (v := 2) (by decide) ?_
  refine z_iadd X d_lw_1446 ?_
  refine z_sld X hX hbl hbA (lw_in hi0 hi1 (k := 2) (by decide) (by decide)) d_lw_1447 (v := xs (i + 2).toNatClampNeg) rfl ?_
  refine mx_callF (k := 0) (wa := wx') (rest := []) (As := [.int (xs (i + 1).toNatClampNeg), .int (xs (i + 2).toNatClampNeg)]) (μ := (fun k => ((Value.ref y :: [.int (xs (i + 1).toNatClampNeg), .int (xs (i + 2).toNatClampNeg)])[k]?).getD .null)) X k_L_163 (ac_X11_ounce_0 l G) (by decide) (by decide) hy (fun ad w0 he => pre_mu (C := C_X11_ounce_0) (ts := [tI0, tI0]) (As := [.int (xs (i + 1).toNatClampNeg), .int (xs (i + 2).toNatClampNeg)]) rfl rfl rfl rfl ⟨fun _ => vty_i0 _, fun _ => vty_i0 _, trivial⟩ ad w0 he) rfl d_lw_1448 ⟨by decide, by decide⟩ ⟨hc, hs⟩ rfl rfl (Nat.le_of_ble_eq_true rfl) rfl (fun r wm' hr hy' hfm => ?_)
  rcases hr with ⟨h, -⟩ | ⟨-, v, rfl⟩ | ⟨h, -⟩
  all_goals first | (exact absurd h (by decide)) | skip
  refine z_pop X d_lw_1451 rfl ?_
  refine z_goto X d_lw_1452 (tgt := 2192) (by decide) ?_
  exact hK wx' wm' hx' hl' hy' (RelQ.of (hR.m.keep hfx hfm (by decide)) (hR.a.keep hfx hfm (by decide)) (hR.d.keep hfx hfm (by decide)) (hR.c.keep hfx hfm (by decide)) (hR.x.keep hfx hfm (by decide)) (hR.b.keep hfx hfm (by decide)) (hR.h.keep hfx hfm (by decide)) (hR.t.keep hfx hfm (by decide)) (hR.k.keep hfx hfm (by decide)))
theorem lc_32 (X : ZC p s m #[Value.ref b] meth c code 8 RL G (fun q : Nat => s.heap.size ≤ q) ret nm) (hX : va_X b L xs s s.heap) (hbl : b < s.heap.size) (hbA : ¬ s.heap.size ≤ b) (hi0 : 0 ≤ i.toInt) (hi1 : i.toInt + 10 ≤ (L : Int) ∧ L ≤ 5120) (hx : CWx G x wx) (hy : MWx G y wm) (hR : RelQ G wx wm) (hc : kc ≤ room_1.cells) (hs : ks ≤ room_1.slots) (hK : ∀ wx' wm', CWx G x wx' → wx'.length = wx.length → MWx G y wm' → RelQ G wx' wm' → Z p l e room_1 s m #[Value.ref b] below meth c 8 G (fun q : Nat => s.heap.size ≤ q) (lw_Z below #[Value.ref b] s) 2192 (lv5 b x y o i) [] (wx' ++ wm' ++ [(o, aJ G 1 f)]) kc ks) : Z p l e room_1 s m #[Value.ref b] below meth c 8 G (fun q : Nat => s.heap.size ≤ q) (lw_Z below #[Value.ref b] s) 1455 (lv5 b x y o i) [] (wx ++ wm ++ [(o, aJ G 1 f)]) kc ks := by
  obtain ⟨n, h9, s9, c9, f9, g9, ⟨n0, n1⟩, rc9, e9, ⟨hn1, hn2⟩, ⟨a2, b2⟩, ⟨a3, b3⟩, ⟨a4, b4⟩, a5, b5⟩ := id hR.m
  refine z_aload_n X d_lw_1455 rfl 1 rfl ?_
  refine z_aload_n X d_lw_1456 rfl 0 rfl ?_
  refine z_iload X d_lw_1457 4 rfl ?_
  refine z_iconst X d_lw_1459 (v := 1) (by decide) ?_
  refine z_iadd X d_lw_1460 ?_
  refine z_sld X hX hbl hbA (lw_in hi0 hi1 (k := 1) (by decide) (by decide)) d_lw_1461 (v := xs (i + 1).toNatClampNeg) rfl ?_
  obtain ⟨hh9, hq, hg, hr, x1, x2, x3, x4, x5, x6, x7⟩ := id hR.h
  obtain rfl := some_int (a2.symm.trans x1)
  obtain ⟨ha0, sa0, ca0, ⟨eh1, es1, ec1⟩, ⟨pq, pg, pa, pb, pe⟩, ⟨rq, rg, ra, rb, re⟩, ⟨fq, fg, fa, fb, fe⟩, ⟨oq, og, oa, ob1, oe⟩, ⟨wq, wg, wa1, wb1, we⟩⟩ := id hR.a
  obtain rfl := some_int (a2.symm.trans eh1)
  obtain rfl := some_int (a3.symm.trans es1)
  obtain rfl := some_int (a4.symm.trans ec1)
  obtain ⟨tq, tX9, tY9, t1, t2, t3, t4, t5⟩ := id hR.t
  obtain ⟨hd1, eh3, ⟨xq, xg, xa, xb, xe⟩, ⟨yq, yg, ya, yb, ye⟩⟩ := id hR.x
  obtain rfl := some_int (a2.symm.trans eh3)
  obtain ⟨hb9, sb9, cb9, ⟨bh1, bs1, bc1⟩, ⟨bx, bx1, bx2⟩, ⟨by_, by1, by2⟩, ⟨bf, bf1, bf2⟩, ⟨bo, bo1, bo2⟩, ⟨bw, bw1, bw2⟩⟩ := id hR.b
  obtain rfl := some_int (a2.symm.trans bh1)
  obtain rfl := some_int (a3.symm.trans bs1)
  obtain rfl := some_int (a4.symm.trans bc1)
  obtain rfl := arrinj (ra.symm.trans x4)
  obtain rfl := arrinj (xa.symm.trans bx1)
  obtain rfl := arrinj (ya.symm.trans by1)
  have r9_ := cwx_ints hx (k := 9) (n := 16) (a := 0) (b := 9) rfl rfl ra
  have q9_ := cwx_ints hx (k := 10) (n := 16) (a := 0) (b := 9) rfl rfl x2
  have p9_ := cwx_ints hx (k := 6) (n := 16) (a := 0) (b := 1) rfl rfl pa
  have hsb := SB.of (h := h9.toInt) (fp := pq) (fh := hq) (fr := rq) (fx := xq) (fy := yq) (t := tq) (pq := xs (i + 1).toNatClampNeg) rc9.1.2 p9_ q9_ r9_ bx2 by2 t5
  rw [List.append_assoc]
  refine cx_callG (rm := { frames := 5, cells := 0, slots := 0, locals := 129 }) (m0 := C_t_X10_settle_0.2.2.2.2.1) (Ψ := (fun r w1 => ∃ (v9 : Int32) (q9 : Nat → Int32), r = some (.int v9) ∧ SetE h9.toInt pq rq xq yq (tX tq (xs (i + 1).toNatClampNeg)) (tY tq (xs (i + 1).toNatClampNeg)) (xs (i + 1).toNatClampNeg).toInt hq v9 q9 ∧ CQ G w1 10 16 q9)) (rest := []) (As := [.int (xs (i + 1).toNatClampNeg)]) X k_L_164 (fun ad w0 hW hag => ac_sex l G hW ((fget_eq (hag 5 0 (by decide))).trans a2) ((hag 6 0 (by decide)).trans pa) ((hag 7 0 (by decide)).trans xa) ((hag 8 0 (by decide)).trans ya) ((hag 9 0 (by decide)).trans ra) ((hag 10 0 (by decide)).trans x2) ((hag 105 0 (by decide)).trans t1) hsb) ⟨rfl, rfl⟩ (by decide) (fun r w1 wc hl h => (h.elim fun v9 h => h.elim fun q9 h => ⟨v9, q9, h.1, h.2.1, h.2.2.app (by omega)⟩)) hx d_lw_1462 ⟨by decide, by decide⟩ ⟨hc, hs⟩ rfl rfl (by decide) rfl (fun r wx' hz hx' hl' hfx => ?_)
  rw [← List.append_assoc]
  obtain ⟨v, rfl⟩ := (hz.elim fun v9 h => h.elim fun q9 h => ⟨v9, h.1⟩ : ∃ v : Int32, r = some (Value.int v))
  refine z_pop X d_lw_1465 rfl ?_
  refine z_aload_n X d_lw_1466 rfl 2 rfl ?_
  refine z_aload_n X d_lw_1467 rfl 0 rfl ?_
  refine z_iload X d_lw_1468 4 rfl ?_
  refine z_iconst X d_lw_1470 (v := 1) (by decide) ?_
  refine z_iadd X d_lw_1471 ?_
  refine z_sld X hX hbl hbA (lw_in hi0 hi1 (k := 1) (by decide) (by decide)) d_lw_1472 (v := xs (i + 1).toNatClampNeg) rfl ?_
  refine mx_callG (rm := { frames := 3, cells := 0, slots := 0, locals := 69 }) (m0 := C_settle.2.2.2.2.1) (Ψ := (fun r w1 => ∃ (v9 : Int32) (q9 : Nat → Int32), r = some (.int v9) ∧ SetE h9.toInt pg rg xg yg (tX9 (xs (i + 1).toNatClampNeg).toNatClampNeg) (tY9 (xs (i + 1).toNatClampNeg).toNatClampNeg) (xs (i + 1).toNatClampNeg).toInt hg v9 q9 ∧ CQ G w1 6 16 q9)) (wa := wx') (rest := []) (As := [.int (xs (i + 1).toNatClampNeg)]) X k_L_167 (fun ad hW => ac_sem l G hW b2 pb xb yb rb x3 t2 t3) ⟨rfl, rfl⟩ hy d_lw_1473 ⟨by decide, by decide⟩ ⟨hc, hs⟩ rfl rfl (Nat.le_of_ble_eq_true rfl) rfl (fun r wm' hz2 hy' hfm => ?_)
  obtain ⟨v2, rfl⟩ := (hz2.elim fun v9 h => h.elim fun q9 h => ⟨v9, h.1⟩ : ∃ v : Int32, r = some (Value.int v))
  obtain ⟨ev0, hM'⟩ := RelH.settle (pq := xs (i + 1).toNatClampNeg) hfx (by decide) a2 ra rc9.1.2 pe re xe ye x5 x6 x7 r9_ q9_ t4 hz hz2
  have hR' : RelQ G wx' wm' := RelQ.of (hR.m.keep hfx hfm (by decide)) (hR.a.keep hfx hfm (by decide)) (hR.d.keep hfx hfm (by decide)) (hR.c.keep hfx hfm (by decide)) (hR.x.keep hfx hfm (by decide)) (hR.b.keep hfx hfm (by decide)) (hM') (hR.t.keep hfx hfm (by decide)) (hR.k.keep hfx hfm (by decide))
  have ev : v.toInt = v2.toInt := congrArg Int32.toInt ev0
  refine z_pop X d_lw_1476 rfl ?_
  refine z_goto X d_lw_1477 (tgt := 2192) (by decide) ?_
  exact hK wx' wm' hx' hl' hy' hR'
theorem lc_33 (X : ZC p s m #[Value.ref b] meth c code 8 RL G (fun q : Nat => s.heap.size ≤ q) ret nm) (hX : va_X b L xs s s.heap) (hbl : b < s.heap.size) (hbA : ¬ s.heap.size ≤ b) (hi0 : 0 ≤ i.toInt) (hi1 : i.toInt + 10 ≤ (L : Int) ∧ L ≤ 5120) (hx : CWx G x wx) (hy : MWx G y wm) (hR : RelQ G wx wm) (hc : kc ≤ room_1.cells) (hs : ks ≤ room_1.slots) (hK : ∀ wx' wm', CWx G x wx' → wx'.length = wx.length → MWx G y wm' → RelQ G wx' wm' → Z p l e room_1 s m #[Value.ref b] below meth c 8 G (fun q : Nat => s.heap.size ≤ q) (lw_Z below #[Value.ref b] s) 2192 (lv5 b x y o i) [] (wx' ++ wm' ++ [(o, aJ G 1 f)]) kc ks) : Z p l e room_1 s m #[Value.ref b] below meth c 8 G (fun q : Nat => s.heap.size ≤ q) (lw_Z below #[Value.ref b] s) 1480 (lv5 b x y o i) [] (wx ++ wm ++ [(o, aJ G 1 f)]) kc ks := by
  refine z_aload_n X d_lw_1480 rfl 1 rfl ?_
  refine z_aload_n X d_lw_1481 rfl 0 rfl ?_
  refine z_iload X d_lw_1482 4 rfl ?_
  refine z_iconst X d_lw_1484 (v := 1) (by decide) ?_
  refine z_iadd X d_lw_1485 ?_
  refine z_sld X hX hbl hbA (lw_in hi0 hi1 (k := 1) (by decide) (by decide)) d_lw_1486 (v := xs (i + 1).toNatClampNeg) rfl ?_
  refine z_aload_n X d_lw_1487 rfl 0 rfl ?_
  refine z_iload X d_lw_1488 4 rfl ?_
  refine z_iconst X d_lw_1490 (v := 2) (by decide) ?_
  refine z_iadd X d_lw_1491 ?_
  refine z_sld X hX hbl hbA (lw_in hi0 hi1 (k := 2) (by decide) (by decide)) d_lw_1492 (v := xs (i + 2).toNatClampNeg) rfl ?_
  refine z_aload_n X d_lw_1493 rfl 0 rfl ?_
  refine z_iload X d_lw_1494 4 rfl ?_
  refine z_iconst X d_lw_1496 (v := 3) (by decide) ?_
  refine z_iadd X d_lw_1497 ?_
  refine z_sld X hX hbl hbA (lw_in hi0 hi1 (k := 3) (by decide) (by decide)) d_lw_1498 (v := xs (i + 3).toNatClampNeg) rfl ?_
  refine z_aload_n X d_lw_1499 rfl 0 rfl ?_
  refine z_iload X d_lw_1500 4 rfl ?_
  refine z_iconst X d_lw_1502 (v := 4) (by decide) ?_
  refine z_iadd X d_lw_1503 ?_
  refine z_sld X hX hbl hbA (lw_in hi0 hi1 (k := 4) (by decide) (by decide)) d_lw_1504 (v := xs (i + 4).toNatClampNeg) rfl ?_
  refine z_aload_n X d_lw_1505 rfl 0 rfl ?_
  refine z_iload X d_lw_1506 4 rfl ?_
  refine z_iconst X d_lw_1508 (v := 5) (by decide) ?_
  refine z_iadd X d_lw_1509 ?_
  refine z_sld X hX hbl hbA (lw_in hi0 hi1 (k := 5) (by decide) (by decide)) d_lw_1510 (v := xs (i + 5).toNatClampNeg) rfl ?_
  rw [List.append_assoc]
  refine cx_callF (k := 0) (rest := []) (As := [.int (xs (i + 1).toNatClampNeg), .int (xs (i + 2).toNatClampNeg), .int (xs (i + 3).toNatClampNeg), .int (xs (i + 4).toNatClampNeg), .int (xs (i + 5).toNatClampNeg)]) (μ := (fun k => ((Value.ref x :: [.int (xs (i + 1).toNatClampNeg), .int (xs (i + 2).toNatClampNeg), .int (xs (i + 3).toNatClampNeg), .int (xs (i + 4).toNatClampNeg), .int (xs (i + 5).toNatClampNeg)])[k]?).getD .null)) X k_L_168 (ac_X10_both_0 l G) (by decide) (by decide) (by decide) hx (fun ad w0 he => pre_mu (C := C_X10_both_0) (ts := [tI0, tI0, tI0, tI0, tI0]) (As := [.int (xs (i + 1).toNatClampNeg), .int (xs (i + 2).toNatClampNeg), .int (xs (i + 3).toNatClampNeg), .int (xs (i + 4).toNatClampNeg), .int (xs (i + 5).toNatClampNeg)]) rfl rfl rfl rfl ⟨fun _ => vty_i0 _, fun _ => vty_i0 _, fun _ => vty_i0 _, fun _ => vty_i0 _, fun _ => vty_i0 _, trivial⟩ ad w0 he) rfl d_lw_1511 ⟨by decide, by decide⟩ ⟨hc, hs⟩ rfl rfl (by decide) rfl (fun r wx' hr hx' hl' hfx => ?_)
  rw [← List.append_assoc]
  rcases hr with ⟨h, -⟩ | ⟨-, v, rfl⟩ | ⟨h, -⟩
  all_goals first | (exact absurd h (by decide)) | skip
  refine z_pop X d_lw_1514 rfl ?_
  refine z_aload_n X d_lw_1515 rfl 2 rfl ?_
  refine z_aload_n X d_lw_1516 rfl 0 rfl ?_
  refine z_iload X d_lw_1517 4 rfl ?_
  refine z_iconst X d_lw_1519 (v := 1) (by decide) ?_
  refine z_iadd X d_lw_1520 ?_
  refine z_sld X hX hbl hbA (lw_in hi0 hi1 (k := 1) (by decide) (by decide)) d_lw_1521 (v := xs (i + 1).toNatClampNeg) rfl ?_
  refine z_aload_n X d_lw_1522 rfl 0 rfl ?_
  refine z_iload X d_lw_1523 4 rfl ?_
  refine z_iconst X d_lw_1525 (v := 2) (by decide) ?_
  refine z_iadd X d_lw_1526 ?_
  refine z_sld X hX hbl hbA (lw_in hi0 hi1 (k := 2) (by decide) (by decide)) d_lw_1527 (v := xs (i + 2).toNatClampNeg) rfl ?_
  refine z_aload_n X d_lw_1528 rfl 0 rfl ?_
  refine z_iload X d_lw_1529 4 rfl ?_
  refine z_iconst X d_lw_1531 (v := 3) (by decide) ?_
  refine z_iadd X d_lw_1532 ?_
  refine z_sld X hX hbl hbA (lw_in hi0 hi1 (k := 3) (by decide) (by decide)) d_lw_1533 (v := xs (i + 3).toNatClampNeg) rfl ?_
  refine z_aload_n X d_lw_1534 rfl 0 rfl ?_
  refine z_iload X d_lw_1535 4 rfl ?_
  refine z_iconst X d_lw_1537 (v := 4) (by decide) ?_
  refine z_iadd X d_lw_1538 ?_
  refine z_sld X hX hbl hbA (lw_in hi0 hi1 (k := 4) (by decide) (by decide)) d_lw_1539 (v := xs (i + 4).toNatClampNeg) rfl ?_
  refine z_aload_n X d_lw_1540 rfl 0 rfl ?_
  refine z_iload X d_lw_1541 4 rfl ?_
  refine z_iconst X d_lw_1543 (v := 5) (by decide) ?_
  refine z_iadd X d_lw_1544 ?_
  refine z_sld X hX hbl hbA (lw_in hi0 hi1 (k := 5) (by decide) (by decide)) d_lw_1545 (v := xs (i + 5).toNatClampNeg) rfl ?_
  refine mx_callF (k := 0) (wa := wx') (rest := []) (As := [.int (xs (i + 1).toNatClampNeg), .int (xs (i + 2).toNatClampNeg), .int (xs (i + 3).toNatClampNeg), .int (xs (i + 4).toNatClampNeg), .int (xs (i + 5).toNatClampNeg)]) (μ := (fun k => ((Value.ref y :: [.int (xs (i + 1).toNatClampNeg), .int (xs (i + 2).toNatClampNeg), .int (xs (i + 3).toNatClampNeg), .int (xs (i + 4).toNatClampNeg), .int (xs (i + 5).toNatClampNeg)])[k]?).getD .null)) X k_L_172 (ac_X11_both_0 l G) (by decide) (by decide) hy (fun ad w0 he => pre_mu (C := C_X11_both_0) (ts := [tI0, tI0, tI0, tI0, tI0]) (As := [.int (xs (i + 1).toNatClampNeg), .int (xs (i + 2).toNatClampNeg), .int (xs (i + 3).toNatClampNeg), .int (xs (i + 4).toNatClampNeg), .int (xs (i + 5).toNatClampNeg)]) rfl rfl rfl rfl ⟨fun _ => vty_i0 _, fun _ => vty_i0 _, fun _ => vty_i0 _, fun _ => vty_i0 _, fun _ => vty_i0 _, trivial⟩ ad w0 he) rfl d_lw_1546 ⟨by decide, by decide⟩ ⟨hc, hs⟩ rfl rfl (Nat.le_of_ble_eq_true rfl) rfl (fun r wm' hr hy' hfm => ?_)
  rcases hr with ⟨h, -⟩ | ⟨-, v, rfl⟩ | ⟨h, -⟩
  all_goals first | (exact absurd h (by decide)) | skip
  refine z_pop X d_lw_1549 rfl ?_
  refine z_goto X d_lw_1550 (tgt := 2192) (by decide) ?_
  exact hK wx' wm' hx' hl' hy' (RelQ.of (hR.m.keep hfx hfm (by decide)) (hR.a.keep hfx hfm (by decide)) (hR.d.keep hfx hfm (by decide)) (hR.c.keep hfx hfm (by decide)) (hR.x.keep hfx hfm (by decide)) (hR.b.keep hfx hfm (by decide)) (hR.h.keep hfx hfm (by decide)) (hR.t.keep hfx hfm (by decide)) (hR.k.keep hfx hfm (by decide)))
end LWC
end
section
/-! the law: its cases, the relation kept -/
section LWC
variable {p : Program} {l : Launch} {e : Env} {s : State} {m : MethodId} {below : List Frame} {meth : Method} {c : Code} {G : KG} {nm : String} {b L x y o : Nat} {xs : Nat → Int32} {i : Int32} {f : Nat → Int64} {wx wm : va_W} {kc ks : Nat}
theorem lc_34 (X : ZC p s m #[Value.ref b] meth c code 8 RL G (fun q : Nat => s.heap.size ≤ q) ret nm) (hX : va_X b L xs s s.heap) (hbl : b < s.heap.size) (hbA : ¬ s.heap.size ≤ b) (hi0 : 0 ≤ i.toInt) (hi1 : i.toInt + 10 ≤ (L : Int) ∧ L ≤ 5120) (hx : CWx G x wx) (hy : MWx G y wm) (hR : RelQ G wx wm) (hc : kc ≤ room_1.cells) (hs : ks ≤ room_1.slots) (hK : ∀ wx' wm', CWx G x wx' → wx'.length = wx.length → MWx G y wm' → RelQ G wx' wm' → Z p l e room_1 s m #[Value.ref b] below meth c 8 G (fun q : Nat => s.heap.size ≤ q) (lw_Z below #[Value.ref b] s) 2192 (lv5 b x y o i) [] (wx' ++ wm' ++ [(o, aJ G 1 f)]) kc ks) : Z p l e room_1 s m #[Value.ref b] below meth c 8 G (fun q : Nat => s.heap.size ≤ q) (lw_Z below #[Value.ref b] s) 1553 (lv5 b x y o i) [] (wx ++ wm ++ [(o, aJ G 1 f)]) kc ks := by
  refine z_aload_n X d_lw_1553 rfl 1 rfl ?_
  refine z_aload_n X d_lw_1554 rfl 0 rfl ?_
  refine z_iload X d_lw_1555 4 rfl ?_
  refine z_iconst X d_lw_1557 (v := 1) (by decide) ?_
  refine z_iadd X d_lw_1558 ?_
  refine z_sld X hX hbl hbA (lw_in hi0 hi1 (k := 1) (by decide) (by decide)) d_lw_1559 (v := xs (i + 1).toNatClampNeg) rfl ?_
  rw [List.append_assoc]
  refine cx_callF (k := 1) (rest := []) (As := [.int (xs (i + 1).toNatClampNeg)]) (μ := (fun k => ((Value.ref x :: [.int (xs (i + 1).toNatClampNeg)])[k]?).getD .null)) X k_L_173 (ac_t_X10_two_0 l G) (by decide) (by decide) (by decide) hx (fun ad w0 he => pre_mu (C := C_t_X10_two_0) (ts := [tI0]) (As := [.int (xs (i + 1).toNatClampNeg)]) rfl rfl rfl rfl ⟨fun _ => vty_i0 _, trivial⟩ ad w0 he) rfl d_lw_1560 ⟨by decide, by decide⟩ ⟨hc, hs⟩ rfl rfl (by decide) rfl (fun r wx' hr hx' hl' hfx => ?_)
  rw [← List.append_assoc]
  rcases hr with ⟨h, -⟩ | ⟨h, -⟩ | ⟨-, v, rfl⟩
  all_goals first | (exact absurd h (by decide)) | skip
  refine z_pop2 X d_lw_1563 rfl ?_
  refine z_aload_n X d_lw_1564 rfl 2 rfl ?_
  refine z_aload_n X d_lw_1565 rfl 0 rfl ?_
  refine z_iload X d_lw_1566 4 rfl ?_
  refine z_iconst X d_lw_1568 (v := 1) (by decide) ?_
  refine z_iadd X d_lw_1569 ?_
  refine z_sld X hX hbl hbA (lw_in hi0 hi1 (k := 1) (by decide) (by decide)) d_lw_1570 (v := xs (i + 1).toNatClampNeg) rfl ?_
  refine mx_callF (k := 1) (wa := wx') (rest := []) (As := [.int (xs (i + 1).toNatClampNeg)]) (μ := (fun k => ((Value.ref y :: [.int (xs (i + 1).toNatClampNeg)])[k]?).getD .null)) X k_L_176 (ac_X11_two_0 l G) (by decide) (by decide) hy (fun ad w0 he => pre_mu (C := C_X11_two_0) (ts := [tI0]) (As := [.int (xs (i + 1).toNatClampNeg)]) rfl rfl rfl rfl ⟨fun _ => vty_i0 _, trivial⟩ ad w0 he) rfl d_lw_1571 ⟨by decide, by decide⟩ ⟨hc, hs⟩ rfl rfl (Nat.le_of_ble_eq_true rfl) rfl (fun r wm' hr hy' hfm => ?_)
  rcases hr with ⟨h, -⟩ | ⟨h, -⟩ | ⟨-, v, rfl⟩
  all_goals first | (exact absurd h (by decide)) | skip
  refine z_pop2 X d_lw_1574 rfl ?_
  refine z_goto X d_lw_1575 (tgt := 2192) (by decide) ?_
  exact hK wx' wm' hx' hl' hy' (RelQ.of (hR.m.keep hfx hfm (by decide)) (hR.a.keep hfx hfm (by decide)) (hR.d.keep hfx hfm (by decide)) (hR.c.keep hfx hfm (by decide)) (hR.x.keep hfx hfm (by decide)) (hR.b.keep hfx hfm (by decide)) (hR.h.keep hfx hfm (by decide)) (hR.t.keep hfx hfm (by decide)) (hR.k.keep hfx hfm (by decide)))
theorem lc_35 (X : ZC p s m #[Value.ref b] meth c code 8 RL G (fun q : Nat => s.heap.size ≤ q) ret nm) (hX : va_X b L xs s s.heap) (hbl : b < s.heap.size) (hbA : ¬ s.heap.size ≤ b) (hi0 : 0 ≤ i.toInt) (hi1 : i.toInt + 10 ≤ (L : Int) ∧ L ≤ 5120) (hx : CWx G x wx) (hy : MWx G y wm) (hR : RelQ G wx wm) (hc : kc ≤ room_1.cells) (hs : ks ≤ room_1.slots) (hK : ∀ wx' wm', CWx G x wx' → wx'.length = wx.length → MWx G y wm' → RelQ G wx' wm' → Z p l e room_1 s m #[Value.ref b] below meth c 8 G (fun q : Nat => s.heap.size ≤ q) (lw_Z below #[Value.ref b] s) 2192 (lv5 b x y o i) [] (wx' ++ wm' ++ [(o, aJ G 1 f)]) kc ks) : Z p l e room_1 s m #[Value.ref b] below meth c 8 G (fun q : Nat => s.heap.size ≤ q) (lw_Z below #[Value.ref b] s) 1578 (lv5 b x y o i) [] (wx ++ wm ++ [(o, aJ G 1 f)]) kc ks := by
  refine z_aload_n X d_lw_1578 rfl 1 rfl ?_
  refine z_aload_n X d_lw_1579 rfl 0 rfl ?_
  refine z_iload X d_lw_1580 4 rfl ?_
  refine z_iconst X d_lw_1582 (v := 1) (by decide) ?_
  refine z_iadd X d_lw_1583 ?_
  refine z_sld X hX hbl hbA (lw_in hi0 hi1 (k := 1) (by decide) (by decide)) d_lw_1584 (v := xs (i + 1).toNatClampNeg) rfl ?_
  refine z_aload_n X d_lw_1585 rfl 0 rfl ?_
  refine z_iload X d_lw_1586 4 rfl ?_
  refine z_iconst X d_lw_1588 (v := 2) (by decide) ?_
  refine z_iadd X d_lw_1589 ?_
  refine z_sld X hX hbl hbA (lw_in hi0 hi1 (k := 2) (by decide) (by decide)) d_lw_1590 (v := xs (i + 2).toNatClampNeg) rfl ?_
  refine z_aload_n X d_lw_1591 rfl 0 rfl ?_
  refine z_iload X d_lw_1592 4 rfl ?_
  refine z_iconst X d_lw_1594 (v := 3) (by decide) ?_
  refine z_iadd X d_lw_1595 ?_
  refine z_sld X hX hbl hbA (lw_in hi0 hi1 (k := 3) (by decide) (by decide)) d_lw_1596 (v := xs (i + 3).toNatClampNeg) rfl ?_
  rw [List.append_assoc]
  refine cx_callF (k := 0) (rest := []) (As := [.int (xs (i + 1).toNatClampNeg), .int (xs (i + 2).toNatClampNeg), .int (xs (i + 3).toNatClampNeg)]) (μ := (fun k => ((Value.ref x :: [.int (xs (i + 1).toNatClampNeg), .int (xs (i + 2).toNatClampNeg), .int (xs (i + 3).toNatClampNeg)])[k]?).getD .null)) X k_L_177 (ac_X10_at_0 l G) (by decide) (by decide) (by decide) hx (fun ad w0 he => pre_mu (C := C_X10_at_0) (ts := [tI0, tI0, tI0]) (As := [.int (xs (i + 1).toNatClampNeg), .int (xs (i + 2).toNatClampNeg), .int (xs (i + 3).toNatClampNeg)]) rfl rfl rfl rfl ⟨fun _ => vty_i0 _, fun _ => vty_i0 _, fun _ => vty_i0 _, trivial⟩ ad w0 he) rfl d_lw_1597 ⟨by decide, by decide⟩ ⟨hc, hs⟩ rfl rfl (by decide) rfl (fun r wx' hr hx' hl' hfx => ?_)
  rw [← List.append_assoc]
  rcases hr with ⟨h, -⟩ | ⟨-, v, rfl⟩ | ⟨h, -⟩
  all_goals first | (exact absurd h (by decide)) | skip
  refine z_pop X d_lw_1600 rfl ?_
  refine z_aload_n X d_lw_1601 rfl 2 rfl ?_
  refine z_aload_n X d_lw_1602 rfl 0 rfl ?_
  refine z_iload X d_lw_1603 4 rfl ?_
  refine z_iconst X d_lw_1605 (v := 1) (by decide) ?_
  refine z_iadd X d_lw_1606 ?_
  refine z_sld X hX hbl hbA (lw_in hi0 hi1 (k := 1) (by decide) (by decide)) d_lw_1607 (v := xs (i + 1).toNatClampNeg) rfl ?_
  refine z_aload_n X d_lw_1608 rfl 0 rfl ?_
  refine z_iload X d_lw_1609 4 rfl ?_
  refine z_iconst X d_lw_1611 (v := 2) (by decide) ?_
  refine z_iadd X d_lw_1612 ?_
  refine z_sld X hX hbl hbA (lw_in hi0 hi1 (k := 2) (by decide) (by decide)) d_lw_1613 (v := xs (i + 2).toNatClampNeg) rfl ?_
  refine z_aload_n X d_lw_1614 rfl 0 rfl ?_
  refine z_iload X d_lw_1615 4 rfl ?_
  refine z_iconst X d_lw_1617 (v := 3) (by decide) ?_
  refine z_iadd X d_lw_1618 ?_
  refine z_sld X hX hbl hbA (lw_in hi0 hi1 (k := 3) (by decide) (by decide)) d_lw_1619 (v := xs (i + 3).toNatClampNeg) rfl ?_
  refine mx_callF (k := 0) (wa := wx') (rest := []) (As := [.int (xs (i + 1).toNatClampNeg), .int (xs (i + 2).toNatClampNeg), .int (xs (i + 3).toNatClampNeg)]) (μ := (fun k => ((Value.ref y :: [.int (xs (i + 1).toNatClampNeg), .int (xs (i + 2).toNatClampNeg), .int (xs (i + 3).toNatClampNeg)])[k]?).getD .null)) X k_L_180 (ac_X11_at_0 l G) (by decide) (by decide) hy (fun ad w0 he => pre_mu (C := C_X11_at_0) (ts := [tI0, tI0, tI0]) (As := [.int (xs (i + 1).toNatClampNeg), .int (xs (i + 2).toNatClampNeg), .int (xs (i + 3).toNatClampNeg)]) rfl rfl rfl rfl ⟨fun _ => vty_i0 _, fun _ => vty_i0 _, fun _ => vty_i0 _, trivial⟩ ad w0 he) rfl d_lw_1620 ⟨by decide, by decide⟩ ⟨hc, hs⟩ rfl rfl (Nat.le_of_ble_eq_true rfl) rfl (fun r wm' hr hy' hfm => ?_)
  rcases hr with ⟨h, -⟩ | ⟨-, v, rfl⟩ | ⟨h, -⟩
  all_goals first | (exact absurd h (by decide)) | skip
  refine z_pop X d_lw_1623 rfl ?_
  refine z_goto X d_lw_1624 (tgt := 2192) (by decide) ?_
  exact hK wx' wm' hx' hl' hy' (RelQ.of (hR.m.keep hfx hfm (by decide)) (hR.a.keep hfx hfm (by decide)) (hR.d.keep hfx hfm (by decide)) (hR.c.keep hfx hfm (by decide)) (hR.x.keep hfx hfm (by decide)) (hR.b.keep hfx hfm (by decide)) (hR.h.keep hfx hfm (by decide)) (hR.t.keep hfx hfm (by decide)) (hR.k.keep hfx hfm (by decide)))
theorem lc_36 (X : ZC p s m #[Value.ref b] meth c code 8 RL G (fun q : Nat => s.heap.size ≤ q) ret nm) (hX : va_X b L xs s s.heap) (hbl : b < s.heap.size) (hbA : ¬ s.heap.size ≤ b) (hi0 : 0 ≤ i.toInt) (hi1 : i.toInt + 10 ≤ (L : Int) ∧ L ≤ 5120) (hx : CWx G x wx) (hy : MWx G y wm) (hR : RelQ G wx wm) (hc : kc ≤ room_1.cells) (hs : ks ≤ room_1.slots) (hK : ∀ wx' wm', CWx G x wx' → wx'.length = wx.length → MWx G y wm' → RelQ G wx' wm' → Z p l e room_1 s m #[Value.ref b] below meth c 8 G (fun q : Nat => s.heap.size ≤ q) (lw_Z below #[Value.ref b] s) 2192 (lv5 b x y o i) [] (wx' ++ wm' ++ [(o, aJ G 1 f)]) kc ks) : Z p l e room_1 s m #[Value.ref b] below meth c 8 G (fun q : Nat => s.heap.size ≤ q) (lw_Z below #[Value.ref b] s) 1627 (lv5 b x y o i) [] (wx ++ wm ++ [(o, aJ G 1 f)]) kc ks := by
  refine z_aload_n X d_lw_1627 rfl 1 rfl ?_
  rw [List.append_assoc]
  refine cx_callF (k := 1) (rest := []) (As := []) (μ := (fun k => ((Value.ref x :: [])[k]?).getD .null)) X k_L_181 (ac_t_X10_worst_0 l G) (by decide) (by decide) (by decide) hx (fun ad w0 he => pre_mu (C := C_t_X10_worst_0) (ts := []) (As := []) rfl rfl rfl rfl trivial ad w0 he) rfl d_lw_1628 ⟨by decide, by decide⟩ ⟨hc, hs⟩ rfl rfl (by decide) rfl (fun r wx' hr hx' hl' hfx => ?_)
  rw [← List.append_assoc]
  rcases hr with ⟨h, -⟩ | ⟨h, -⟩ | ⟨-, v, rfl⟩
  all_goals first | (exact absurd h (by decide)) | skip
  refine z_pop2 X d_lw_1631 rfl ?_
  refine z_aload_n X d_lw_1632 rfl 2 rfl ?_
  refine mx_callF (k := 1) (wa := wx') (rest := []) (As := []) (μ := (fun k => ((Value.ref y :: [])[k]?).getD .null)) X k_L_185 (ac_X11_worst_0 l G) (by decide) (by decide) hy (fun ad w0 he => pre_mu (C := C_X11_worst_0) (ts := []) (As := []) rfl rfl rfl rfl trivial ad w0 he) rfl d_lw_1633 ⟨by decide, by decide⟩ ⟨hc, hs⟩ rfl rfl (Nat.le_of_ble_eq_true rfl) rfl (fun r wm' hr hy' hfm => ?_)
  rcases hr with ⟨h, -⟩ | ⟨h, -⟩ | ⟨-, v, rfl⟩
  all_goals first | (exact absurd h (by decide)) | skip
  refine z_pop2 X d_lw_1636 rfl ?_
  refine z_goto X d_lw_1637 (tgt := 2192) (by decide) ?_
  exact hK wx' wm' hx' hl' hy' (RelQ.of (hR.m.keep hfx hfm (by decide)) (hR.a.keep hfx hfm (by decide)) (hR.d.keep hfx hfm (by decide)) (hR.c.keep hfx hfm (by decide)) (hR.x.keep hfx hfm (by decide)) (hR.b.keep hfx hfm (by decide)) (hR.h.keep hfx hfm (by decide)) (hR.t.keep hfx hfm (by decide)) (hR.k.keep hfx hfm (by decide)))
theorem lc_37 (X : ZC p s m #[Value.ref b] meth c code 8 RL G (fun q : Nat => s.heap.size ≤ q) ret nm) (hX : va_X b L xs s s.heap) (hbl : b < s.heap.size) (hbA : ¬ s.heap.size ≤ b) (hi0 : 0 ≤ i.toInt) (hi1 : i.toInt + 10 ≤ (L : Int) ∧ L ≤ 5120) (hx : CWx G x wx) (hy : MWx G y wm) (hR : RelQ G wx wm) (hc : kc ≤ room_1.cells) (hs : ks ≤ room_1.slots) (hK : ∀ wx' wm', CWx G x wx' → wx'.length = wx.length → MWx G y wm' → RelQ G wx' wm' → Z p l e room_1 s m #[Value.ref b] below meth c 8 G (fun q : Nat => s.heap.size ≤ q) (lw_Z below #[Value.ref b] s) 2192 (lv5 b x y o i) [] (wx' ++ wm' ++ [(o, aJ G 1 f)]) kc ks) : Z p l e room_1 s m #[Value.ref b] below meth c 8 G (fun q : Nat => s.heap.size ≤ q) (lw_Z below #[Value.ref b] s) 1640 (lv5 b x y o i) [] (wx ++ wm ++ [(o, aJ G 1 f)]) kc ks := by
  refine z_aload_n X d_lw_1640 rfl 1 rfl ?_
  refine z_aload_n X d_lw_1641 rfl 0 rfl ?_
  refine z_iload X d_lw_1642 4 rfl ?_
  refine z_iconst X d_lw_1644 (v := 1) (by decide) ?_
  refine z_iadd X d_lw_1645 ?_
  refine z_sld X hX hbl hbA (lw_in hi0 hi1 (k := 1) (by decide) (by decide)) d_lw_1646 (v := xs (i + 1).toNatClampNeg) rfl ?_
  refine z_aload_n X d_lw_1647 rfl 0 rfl ?_
  refine z_iload X d_lw_1648 4 rfl ?_
  refine z_iconst X d_lw_1650 (v := 2) (by decide) ?_
  refine z_iadd X d_lw_1651 ?_
  refine z_sld X hX hbl hbA (lw_in hi0 hi1 (k := 2) (by decide) (by decide)) d_lw_1652 (v := xs (i + 2).toNatClampNeg) rfl ?_
  refine z_i2l X d_lw_1653 rfl ?_
  refine z_bipush X d_lw_1654 (v := 32) (by decide) ?_
  refine z_lshl X d_lw_1656 (v := (((xs (i + 2).toNatClampNeg).toInt64) <<< (((32 : Int32)).toInt64 &&& 63))) rfl ?_
  refine z_aload_n X d_lw_1657 rfl 0 rfl ?_
  refine z_iload X d_lw_1658 4 rfl ?_
  refine z_iconst X d_lw_1660 (v := 3) (by decide) ?_
  refine z_iadd X d_lw_1661 ?_
  refine z_sld X hX hbl hbA (lw_in hi0 hi1 (k := 3) (by decide) (by decide)) d_lw_1662 (v := xs (i + 3).toNatClampNeg) rfl ?_
  refine z_i2l X d_lw_1663 rfl ?_
  refine z_ldc2 X d_lw_1664 (v := 4294967295) cn_L_149 ?_
  refine z_land X d_lw_1667 ?_
  refine z_lor X d_lw_1668 ?_
  refine z_aload_n X d_lw_1669 rfl 0 rfl ?_
  refine z_iload X d_lw_1670 4 rfl ?_
  refine z_iconst X d_lw_1672 (v := 4) (by decide) ?_
  refine z_iadd X d_lw_1673 ?_
  refine z_sld X hX hbl hbA (lw_in hi0 hi1 (k := 4) (by decide) (by decide)) d_lw_1674 (v := xs (i + 4).toNatClampNeg) rfl ?_
  refine z_aload_n X d_lw_1675 rfl 0 rfl ?_
  refine z_iload X d_lw_1676 4 rfl ?_
  refine z_iconst X d_lw_1678 (v := 5) (by decide) ?_
  refine z_iadd X d_lw_1679 ?_
  refine z_sld X hX hbl hbA (lw_in hi0 hi1 (k := 5) (by decide) (by decide)) d_lw_1680 (v := xs (i + 5).toNatClampNeg) rfl ?_
  refine z_i2l X d_lw_1681 rfl ?_
  refine z_bipush X d_lw_1682 (v := 32) (by decide) ?_
  refine z_lshl X d_lw_1684 (v := (((xs (i + 5).toNatClampNeg).toInt64) <<< (((32 : Int32)).toInt64 &&& 63))) rfl ?_
  refine z_aload_n X d_lw_1685 rfl 0 rfl ?_
  refine z_iload X d_lw_1686 4 rfl ?_
  refine z_bipush X d_lw_1688 (v := 6) (by decide) ?_
  refine z_iadd X d_lw_1690 ?_
  refine z_sld X hX hbl hbA (lw_in hi0 hi1 (k := 6) (by decide) (by decide)) d_lw_1691 (v := xs (i + 6).toNatClampNeg) rfl ?_
  refine z_i2l X d_lw_1692 rfl ?_
  refine z_ldc2 X d_lw_1693 (v := 4294967295) cn_L_149 ?_
  refine z_land X d_lw_1696 ?_
  refine z_lor X d_lw_1697 ?_
  rw [List.append_assoc]
  refine cx_callF (k := 0) (rest := []) (As := [.int (xs (i + 1).toNatClampNeg), .long ((((((xs (i + 2).toNatClampNeg).toInt64) <<< (((32 : Int32)).toInt64 &&& 63))) ||| ((((xs (i + 3).toNatClampNeg).toInt64) &&& ((4294967295 : Int64)))))), .int (xs (i + 4).toNatClampNeg), .long ((((((xs (i + 5).toNatClampNeg).toInt64) <<< (((32 : Int32)).toInt64 &&& 63))) ||| ((((xs (i + 6).toNatClampNeg).toInt64) &&& ((4294967295 : Int64))))))]) (μ := (fun k => ((Value.ref x :: [.int (xs (i + 1).toNatClampNeg), .long ((((((xs (i + 2).toNatClampNeg).toInt64) <<< (((32 : Int32)).toInt64 &&& 63))) ||| ((((xs (i + 3).toNatClampNeg).toInt64) &&& ((4294967295 : Int64)))))), .int (xs (i + 4).toNatClampNeg), .long ((((((xs (i + 5).toNatClampNeg).toInt64) <<< (((32 : Int32)).toInt64 &&& 63))) ||| ((((xs (i + 6).toNatClampNeg).toInt64) &&& ((4294967295 : Int64))))))])[k]?).getD .null)) X k_L_186 (ac_X10_floor_0 l G) (by decide) (by decide) (by decide) hx (fun ad w0 he => pre_mu (C := C_X10_floor_0) (ts := [tI0, tL0, tI0, tL0]) (As := [.int (xs (i + 1).toNatClampNeg), .long ((((((xs (i + 2).toNatClampNeg).toInt64) <<< (((32 : Int32)).toInt64 &&& 63))) ||| ((((xs (i + 3).toNatClampNeg).toInt64) &&& ((4294967295 : Int64)))))), .int (xs (i + 4).toNatClampNeg), .long ((((((xs (i + 5).toNatClampNeg).toInt64) <<< (((32 : Int32)).toInt64 &&& 63))) ||| ((((xs (i + 6).toNatClampNeg).toInt64) &&& ((4294967295 : Int64))))))]) rfl rfl rfl rfl ⟨fun _ => vty_i0 _, fun _ => vty_l0 _, fun _ => vty_i0 _, fun _ => vty_l0 _, trivial⟩ ad w0 he) rfl d_lw_1698 ⟨by decide, by decide⟩ ⟨hc, hs⟩ rfl rfl (by decide) rfl (fun r wx' hr hx' hl' hfx => ?_)
  rw [← List.append_assoc]
  rcases hr with ⟨h, -⟩ | ⟨-, v, rfl⟩ | ⟨h, -⟩
  all_goals first | (exact absurd h (by decide)) | skip
  refine z_pop X d_lw_1701 rfl ?_
  refine z_aload_n X d_lw_1702 rfl 2 rfl ?_
  refine z_aload_n X d_lw_1703 rfl 0 rfl ?_
  refine z_iload X d_lw_1704 4 rfl ?_
  refine z_iconst X d_lw_1706 (v := 1) (by decide) ?_
  refine z_iadd X d_lw_1707 ?_
  refine z_sld X hX hbl hbA (lw_in hi0 hi1 (k := 1) (by decide) (by decide)) d_lw_1708 (v := xs (i + 1).toNatClampNeg) rfl ?_
  refine z_aload_n X d_lw_1709 rfl 0 rfl ?_
  refine z_iload X d_lw_1710 4 rfl ?_
  refine z_iconst X d_lw_1712 (v := 2) (by decide) ?_
  refine z_iadd X d_lw_1713 ?_
  refine z_sld X hX hbl hbA (lw_in hi0 hi1 (k := 2) (by decide) (by decide)) d_lw_1714 (v := xs (i + 2).toNatClampNeg) rfl ?_
  refine z_i2l X d_lw_1715 rfl ?_
  refine z_bipush X d_lw_1716 (v := 32) (by decide) ?_
  refine z_lshl X d_lw_1718 (v := (((xs (i + 2).toNatClampNeg).toInt64) <<< (((32 : Int32)).toInt64 &&& 63))) rfl ?_
  refine z_aload_n X d_lw_1719 rfl 0 rfl ?_
  refine z_iload X d_lw_1720 4 rfl ?_
  refine z_iconst X d_lw_1722 (v := 3) (by decide) ?_
  refine z_iadd X d_lw_1723 ?_
  refine z_sld X hX hbl hbA (lw_in hi0 hi1 (k := 3) (by decide) (by decide)) d_lw_1724 (v := xs (i + 3).toNatClampNeg) rfl ?_
  refine z_i2l X d_lw_1725 rfl ?_
  refine z_ldc2 X d_lw_1726 (v := 4294967295) cn_L_149 ?_
  refine z_land X d_lw_1729 ?_
  refine z_lor X d_lw_1730 ?_
  refine z_aload_n X d_lw_1731 rfl 0 rfl ?_
  refine z_iload X d_lw_1732 4 rfl ?_
  refine z_iconst X d_lw_1734 (v := 4) (by decide) ?_
  refine z_iadd X d_lw_1735 ?_
  refine z_sld X hX hbl hbA (lw_in hi0 hi1 (k := 4) (by decide) (by decide)) d_lw_1736 (v := xs (i + 4).toNatClampNeg) rfl ?_
  refine z_aload_n X d_lw_1737 rfl 0 rfl ?_
  refine z_iload X d_lw_1738 4 rfl ?_
  refine z_iconst X d_lw_1740 (v := 5) (by decide) ?_
  refine z_iadd X d_lw_1741 ?_
  refine z_sld X hX hbl hbA (lw_in hi0 hi1 (k := 5) (by decide) (by decide)) d_lw_1742 (v := xs (i + 5).toNatClampNeg) rfl ?_
  refine z_i2l X d_lw_1743 rfl ?_
  refine z_bipush X d_lw_1744 (v := 32) (by decide) ?_
  refine z_lshl X d_lw_1746 (v := (((xs (i + 5).toNatClampNeg).toInt64) <<< (((32 : Int32)).toInt64 &&& 63))) rfl ?_
  refine z_aload_n X d_lw_1747 rfl 0 rfl ?_
  refine z_iload X d_lw_1748 4 rfl ?_
  refine z_bipush X d_lw_1750 (v := 6) (by decide) ?_
  refine z_iadd X d_lw_1752 ?_
  refine z_sld X hX hbl hbA (lw_in hi0 hi1 (k := 6) (by decide) (by decide)) d_lw_1753 (v := xs (i + 6).toNatClampNeg) rfl ?_
  refine z_i2l X d_lw_1754 rfl ?_
  refine z_ldc2 X d_lw_1755 (v := 4294967295) cn_L_149 ?_
  refine z_land X d_lw_1758 ?_
  refine z_lor X d_lw_1759 ?_
  refine mx_callF (k := 0) (wa := wx') (rest := []) (As := [.int (xs (i + 1).toNatClampNeg), .long ((((((xs (i + 2).toNatClampNeg).toInt64) <<< (((32 : Int32)).toInt64 &&& 63))) ||| ((((xs (i + 3).toNatClampNeg).toInt64) &&& ((4294967295 : Int64)))))), .int (xs (i + 4).toNatClampNeg), .long ((((((xs (i + 5).toNatClampNeg).toInt64) <<< (((32 : Int32)).toInt64 &&& 63))) ||| ((((xs (i + 6).toNatClampNeg).toInt64) &&& ((4294967295 : Int64))))))]) (μ := (fun k => ((Value.ref y :: [.int (xs (i + 1).toNatClampNeg), .long ((((((xs (i + 2).toNatClampNeg).toInt64) <<< (((32 : Int32)).toInt64 &&& 63))) ||| ((((xs (i + 3).toNatClampNeg).toInt64) &&& ((4294967295 : Int64)))))), .int (xs (i + 4).toNatClampNeg), .long ((((((xs (i + 5).toNatClampNeg).toInt64) <<< (((32 : Int32)).toInt64 &&& 63))) ||| ((((xs (i + 6).toNatClampNeg).toInt64) &&& ((4294967295 : Int64))))))])[k]?).getD .null)) X k_L_190 (ac_X11_floor_0 l G) (by decide) (by decide) hy (fun ad w0 he => pre_mu (C := C_X11_floor_0) (ts := [tI0, tL0, tI0, tL0]) (As := [.int (xs (i + 1).toNatClampNeg), .long ((((((xs (i + 2).toNatClampNeg).toInt64) <<< (((32 : Int32)).toInt64 &&& 63))) ||| ((((xs (i + 3).toNatClampNeg).toInt64) &&& ((4294967295 : Int64)))))), .int (xs (i + 4).toNatClampNeg), .long ((((((xs (i + 5).toNatClampNeg).toInt64) <<< (((32 : Int32)).toInt64 &&& 63))) ||| ((((xs (i + 6).toNatClampNeg).toInt64) &&& ((4294967295 : Int64))))))]) rfl rfl rfl rfl ⟨fun _ => vty_i0 _, fun _ => vty_l0 _, fun _ => vty_i0 _, fun _ => vty_l0 _, trivial⟩ ad w0 he) rfl d_lw_1760 ⟨by decide, by decide⟩ ⟨hc, hs⟩ rfl rfl (Nat.le_of_ble_eq_true rfl) rfl (fun r wm' hr hy' hfm => ?_)
  rcases hr with ⟨h, -⟩ | ⟨-, v, rfl⟩ | ⟨h, -⟩
  all_goals first | (exact absurd h (by decide)) | skip
  refine z_pop X d_lw_1763 rfl ?_
  refine z_goto X d_lw_1764 (tgt := 2192) (by decide) ?_
  exact hK wx' wm' hx' hl' hy' (RelQ.of (hR.m.keep hfx hfm (by decide)) (hR.a.keep hfx hfm (by decide)) (hR.d.keep hfx hfm (by decide)) (hR.c.keep hfx hfm (by decide)) (hR.x.keep hfx hfm (by decide)) (hR.b.keep hfx hfm (by decide)) (hR.h.keep hfx hfm (by decide)) (hR.t.keep hfx hfm (by decide)) (hR.k.keep hfx hfm (by decide)))
theorem lc_38 (X : ZC p s m #[Value.ref b] meth c code 8 RL G (fun q : Nat => s.heap.size ≤ q) ret nm) (hX : va_X b L xs s s.heap) (hbl : b < s.heap.size) (hbA : ¬ s.heap.size ≤ b) (hi0 : 0 ≤ i.toInt) (hi1 : i.toInt + 10 ≤ (L : Int) ∧ L ≤ 5120) (hx : CWx G x wx) (hy : MWx G y wm) (hR : RelQ G wx wm) (hc : kc ≤ room_1.cells) (hs : ks ≤ room_1.slots) (hK : ∀ wx' wm', CWx G x wx' → wx'.length = wx.length → MWx G y wm' → RelQ G wx' wm' → Z p l e room_1 s m #[Value.ref b] below meth c 8 G (fun q : Nat => s.heap.size ≤ q) (lw_Z below #[Value.ref b] s) 2192 (lv5 b x y o i) [] (wx' ++ wm' ++ [(o, aJ G 1 f)]) kc ks) : Z p l e room_1 s m #[Value.ref b] below meth c 8 G (fun q : Nat => s.heap.size ≤ q) (lw_Z below #[Value.ref b] s) 1767 (lv5 b x y o i) [] (wx ++ wm ++ [(o, aJ G 1 f)]) kc ks := by
  refine z_aload_n X d_lw_1767 rfl 1 rfl ?_
  refine z_aload_n X d_lw_1768 rfl 0 rfl ?_
  refine z_iload X d_lw_1769 4 rfl ?_
  refine z_iconst X d_lw_1771 (v := 1) (by decide) ?_
  refine z_iadd X d_lw_1772 ?_
  refine z_sld X hX hbl hbA (lw_in hi0 hi1 (k := 1) (by decide) (by decide)) d_lw_1773 (v := xs (i + 1).toNatClampNeg) rfl ?_
  refine z_aload_n X d_lw_1774 rfl 0 rfl ?_
  refine z_iload X d_lw_1775 4 rfl ?_
  refine z_iconst X d_lw_1777 (v := 2) (by decide) ?_
  refine z_iadd X d_lw_1778 ?_
  refine z_sld X hX hbl hbA (lw_in hi0 hi1 (k := 2) (by decide) (by decide)) d_lw_1779 (v := xs (i + 2).toNatClampNeg) rfl ?_
  refine z_aload_n X d_lw_1780 rfl 0 rfl ?_
  refine z_iload X d_lw_1781 4 rfl ?_
  refine z_iconst X d_lw_1783 (v := 3) (by decide) ?_
  refine z_iadd X d_lw_1784 ?_
  refine z_sld X hX hbl hbA (lw_in hi0 hi1 (k := 3) (by decide) (by decide)) d_lw_1785 (v := xs (i + 3).toNatClampNeg) rfl ?_
  refine z_aload_n X d_lw_1786 rfl 0 rfl ?_
  refine z_iload X d_lw_1787 4 rfl ?_
  refine z_iconst X d_lw_1789 (v := 4) (by decide) ?_
  refine z_iadd X d_lw_1790 ?_
  refine z_sld X hX hbl hbA (lw_in hi0 hi1 (k := 4) (by decide) (by decide)) d_lw_1791 (v := xs (i + 4).toNatClampNeg) rfl ?_
  refine z_i2l X d_lw_1792 rfl ?_
  refine z_bipush X d_lw_1793 (v := 32) (by decide) ?_
  refine z_lshl X d_lw_1795 (v := (((xs (i + 4).toNatClampNeg).toInt64) <<< (((32 : Int32)).toInt64 &&& 63))) rfl ?_
  refine z_aload_n X d_lw_1796 rfl 0 rfl ?_
  refine z_iload X d_lw_1797 4 rfl ?_
  refine z_iconst X d_lw_1799 (v := 5) (by decide) ?_
  refine z_iadd X d_lw_1800 ?_
  refine z_sld X hX hbl hbA (lw_in hi0 hi1 (k := 5) (by decide) (by decide)) d_lw_1801 (v := xs (i + 5).toNatClampNeg) rfl ?_
  refine z_i2l X d_lw_1802 rfl ?_
  refine z_ldc2 X d_lw_1803 (v := 4294967295) cn_L_149 ?_
  refine z_land X d_lw_1806 ?_
  refine z_lor X d_lw_1807 ?_
  refine z_aload_n X d_lw_1808 rfl 0 rfl ?_
  refine z_iload X d_lw_1809 4 rfl ?_
  refine z_bipush X d_lw_1811 (v := 6) (by decide) ?_
  refine z_iadd X d_lw_1813 ?_
  refine z_sld X hX hbl hbA (lw_in hi0 hi1 (k := 6) (by decide) (by decide)) d_lw_1814 (v := xs (i + 6).toNatClampNeg) rfl ?_
  refine z_i2l X d_lw_1815 rfl ?_
  refine z_bipush X d_lw_1816 (v := 32) (by decide) ?_
  refine z_lshl X d_lw_1818 (v := (((xs (i + 6).toNatClampNeg).toInt64) <<< (((32 : Int32)).toInt64 &&& 63))) rfl ?_
  refine z_aload_n X d_lw_1819 rfl 0 rfl ?_
  refine z_iload X d_lw_1820 4 rfl ?_
  refine z_bipush X d_lw_1822 (v := 7) (by decide) ?_
  refine z_iadd X d_lw_1824 ?_
  refine z_sld X hX hbl hbA (lw_in hi0 hi1 (k := 7) (by decide) (by decide)) d_lw_1825 (v := xs (i + 7).toNatClampNeg) rfl ?_
  refine z_i2l X d_lw_1826 rfl ?_
  refine z_ldc2 X d_lw_1827 (v := 4294967295) cn_L_149 ?_
  refine z_land X d_lw_1830 ?_
  refine z_lor X d_lw_1831 ?_
  refine z_aload_n X d_lw_1832 rfl 0 rfl ?_
  refine z_iload X d_lw_1833 4 rfl ?_
  refine z_bipush X d_lw_1835 (v := 8) (by decide) ?_
  refine z_iadd X d_lw_1837 ?_
  refine z_sld X hX hbl hbA (lw_in hi0 hi1 (k := 8) (by decide) (by decide)) d_lw_1838 (v := xs (i + 8).toNatClampNeg) rfl ?_
  refine z_i2l X d_lw_1839 rfl ?_
  refine z_bipush X d_lw_1840 (v := 32) (by decide) ?_
  refine z_lshl X d_lw_1842 (v := (((xs (i + 8).toNatClampNeg).toInt64) <<< (((32 : Int32)).toInt64 &&& 63))) rfl ?_
  refine z_aload_n X d_lw_1843 rfl 0 rfl ?_
  refine z_iload X d_lw_1844 4 rfl ?_
  refine z_bipush X d_lw_1846 (v := 9) (by decide) ?_
  refine z_iadd X d_lw_1848 ?_
  refine z_sld X hX hbl hbA (lw_in hi0 hi1 (k := 9) (by decide) (by decide)) d_lw_1849 (v := xs (i + 9).toNatClampNeg) rfl ?_
  refine z_i2l X d_lw_1850 rfl ?_
  refine z_ldc2 X d_lw_1851 (v := 4294967295) cn_L_149 ?_
  refine z_land X d_lw_1854 ?_
  refine z_lor X d_lw_1855 ?_
  rw [List.append_assoc]
  refine cx_callF (k := 0) (rest := []) (As := [.int (xs (i + 1).toNatClampNeg), .int (xs (i + 2).toNatClampNeg), .int (xs (i + 3).toNatClampNeg), .long ((((((xs (i + 4).toNatClampNeg).toInt64) <<< (((32 : Int32)).toInt64 &&& 63))) ||| ((((xs (i + 5).toNatClampNeg).toInt64) &&& ((4294967295 : Int64)))))), .long ((((((xs (i + 6).toNatClampNeg).toInt64) <<< (((32 : Int32)).toInt64 &&& 63))) ||| ((((xs (i + 7).toNatClampNeg).toInt64) &&& ((4294967295 : Int64)))))), .long ((((((xs (i + 8).toNatClampNeg).toInt64) <<< (((32 : Int32)).toInt64 &&& 63))) ||| ((((xs (i + 9).toNatClampNeg).toInt64) &&& ((4294967295 : Int64))))))]) (μ := (fun k => ((Value.ref x :: [.int (xs (i + 1).toNatClampNeg), .int (xs (i + 2).toNatClampNeg), .int (xs (i + 3).toNatClampNeg), .long ((((((xs (i + 4).toNatClampNeg).toInt64) <<< (((32 : Int32)).toInt64 &&& 63))) ||| ((((xs (i + 5).toNatClampNeg).toInt64) &&& ((4294967295 : Int64)))))), .long ((((((xs (i + 6).toNatClampNeg).toInt64) <<< (((32 : Int32)).toInt64 &&& 63))) ||| ((((xs (i + 7).toNatClampNeg).toInt64) &&& ((4294967295 : Int64)))))), .long ((((((xs (i + 8).toNatClampNeg).toInt64) <<< (((32 : Int32)).toInt64 &&& 63))) ||| ((((xs (i + 9).toNatClampNeg).toInt64) &&& ((4294967295 : Int64))))))])[k]?).getD .null)) X k_L_191 (ac_X10_whose_0 l G) (by decide) (by decide) (by decide) hx (fun ad w0 he => pre_mu (C := C_X10_whose_0) (ts := [tI0, tI0, tI0, tL0, tL0, tL0]) (As := [.int (xs (i + 1).toNatClampNeg), .int (xs (i + 2).toNatClampNeg), .int (xs (i + 3).toNatClampNeg), .long ((((((xs (i + 4).toNatClampNeg).toInt64) <<< (((32 : Int32)).toInt64 &&& 63))) ||| ((((xs (i + 5).toNatClampNeg).toInt64) &&& ((4294967295 : Int64)))))), .long ((((((xs (i + 6).toNatClampNeg).toInt64) <<< (((32 : Int32)).toInt64 &&& 63))) ||| ((((xs (i + 7).toNatClampNeg).toInt64) &&& ((4294967295 : Int64)))))), .long ((((((xs (i + 8).toNatClampNeg).toInt64) <<< (((32 : Int32)).toInt64 &&& 63))) ||| ((((xs (i + 9).toNatClampNeg).toInt64) &&& ((4294967295 : Int64))))))]) rfl rfl rfl rfl ⟨fun _ => vty_i0 _, fun _ => vty_i0 _, fun _ => vty_i0 _, fun _ => vty_l0 _, fun _ => vty_l0 _, fun _ => vty_l0 _, trivial⟩ ad w0 he) rfl d_lw_1856 ⟨by decide, by decide⟩ ⟨hc, hs⟩ rfl rfl (by decide) rfl (fun r wx' hr hx' hl' hfx => ?_)
  rw [← List.append_assoc]
  rcases hr with ⟨h, -⟩ | ⟨-, v, rfl⟩ | ⟨h, -⟩
  all_goals first | (exact absurd h (by decide)) | skip
  refine z_pop X d_lw_1859 rfl ?_
  refine z_aload_n X d_lw_1860 rfl 2 rfl ?_
  refine z_aload_n X d_lw_1861 rfl 0 rfl ?_
  refine z_iload X d_lw_1862 4 rfl ?_
  refine z_iconst X d_lw_1864 (v := 1) (by decide) ?_
  refine z_iadd X d_lw_1865 ?_
  refine z_sld X hX hbl hbA (lw_in hi0 hi1 (k := 1) (by decide) (by decide)) d_lw_1866 (v := xs (i + 1).toNatClampNeg) rfl ?_
  refine z_aload_n X d_lw_1867 rfl 0 rfl ?_
  refine z_iload X d_lw_1868 4 rfl ?_
  refine z_iconst X d_lw_1870 (v := 2) (by decide) ?_
  refine z_iadd X d_lw_1871 ?_
  refine z_sld X hX hbl hbA (lw_in hi0 hi1 (k := 2) (by decide) (by decide)) d_lw_1872 (v := xs (i + 2).toNatClampNeg) rfl ?_
  refine z_aload_n X d_lw_1873 rfl 0 rfl ?_
  refine z_iload X d_lw_1874 4 rfl ?_
  refine z_iconst X d_lw_1876 (v := 3) (by decide) ?_
  refine z_iadd X d_lw_1877 ?_
  refine z_sld X hX hbl hbA (lw_in hi0 hi1 (k := 3) (by decide) (by decide)) d_lw_1878 (v := xs (i + 3).toNatClampNeg) rfl ?_
  refine z_aload_n X d_lw_1879 rfl 0 rfl ?_
  refine z_iload X d_lw_1880 4 rfl ?_
  refine z_iconst X d_lw_1882 (v := 4) (by decide) ?_
  refine z_iadd X d_lw_1883 ?_
  refine z_sld X hX hbl hbA (lw_in hi0 hi1 (k := 4) (by decide) (by decide)) d_lw_1884 (v := xs (i + 4).toNatClampNeg) rfl ?_
  refine z_i2l X d_lw_1885 rfl ?_
  refine z_bipush X d_lw_1886 (v := 32) (by decide) ?_
  refine z_lshl X d_lw_1888 (v := (((xs (i + 4).toNatClampNeg).toInt64) <<< (((32 : Int32)).toInt64 &&& 63))) rfl ?_
  refine z_aload_n X d_lw_1889 rfl 0 rfl ?_
  refine z_iload X d_lw_1890 4 rfl ?_
  refine z_iconst X d_lw_1892 (v := 5) (by decide) ?_
  refine z_iadd X d_lw_1893 ?_
  refine z_sld X hX hbl hbA (lw_in hi0 hi1 (k := 5) (by decide) (by decide)) d_lw_1894 (v := xs (i + 5).toNatClampNeg) rfl ?_
  refine z_i2l X d_lw_1895 rfl ?_
  refine z_ldc2 X d_lw_1896 (v := 4294967295) cn_L_149 ?_
  refine z_land X d_lw_1899 ?_
  refine z_lor X d_lw_1900 ?_
  refine z_aload_n X d_lw_1901 rfl 0 rfl ?_
  refine z_iload X d_lw_1902 4 rfl ?_
  refine z_bipush X d_lw_1904 (v := 6) (by decide) ?_
  refine z_iadd X d_lw_1906 ?_
  refine z_sld X hX hbl hbA (lw_in hi0 hi1 (k := 6) (by decide) (by decide)) d_lw_1907 (v := xs (i + 6).toNatClampNeg) rfl ?_
  refine z_i2l X d_lw_1908 rfl ?_
  refine z_bipush X d_lw_1909 (v := 32) (by decide) ?_
  refine z_lshl X d_lw_1911 (v := (((xs (i + 6).toNatClampNeg).toInt64) <<< (((32 : Int32)).toInt64 &&& 63))) rfl ?_
  refine z_aload_n X d_lw_1912 rfl 0 rfl ?_
  refine z_iload X d_lw_1913 4 rfl ?_
  refine z_bipush X d_lw_1915 (v := 7) (by decide) ?_
  refine z_iadd X d_lw_1917 ?_
  refine z_sld X hX hbl hbA (lw_in hi0 hi1 (k := 7) (by decide) (by decide)) d_lw_1918 (v := xs (i + 7).toNatClampNeg) rfl ?_
  refine z_i2l X d_lw_1919 rfl ?_
  refine z_ldc2 X d_lw_1920 (v := 4294967295) cn_L_149 ?_
  refine z_land X d_lw_1923 ?_
  refine z_lor X d_lw_1924 ?_
  refine z_aload_n X d_lw_1925 rfl 0 rfl ?_
  refine z_iload X d_lw_1926 4 rfl ?_
  refine z_bipush X d_lw_1928 (v := 8) (by decide) ?_
  refine z_iadd X d_lw_1930 ?_
  refine z_sld X hX hbl hbA (lw_in hi0 hi1 (k := 8) (by decide) (by decide)) d_lw_1931 (v := xs (i + 8).toNatClampNeg) rfl ?_
  refine z_i2l X d_lw_1932 rfl ?_
  refine z_bipush X d_lw_1933 (v := 32) (by decide) ?_
  refine z_lshl X d_lw_1935 (v := (((xs (i + 8).toNatClampNeg).toInt64) <<< (((32 : Int32)).toInt64 &&& 63))) rfl ?_
  refine z_aload_n X d_lw_1936 rfl 0 rfl ?_
  refine z_iload X d_lw_1937 4 rfl ?_
  refine z_bipush X d_lw_1939 (v := 9) (by decide) ?_
  refine z_iadd X d_lw_1941 ?_
  refine z_sld X hX hbl hbA (lw_in hi0 hi1 (k := 9) (by decide) (by decide)) d_lw_1942 (v := xs (i + 9).toNatClampNeg) rfl ?_
  refine z_i2l X d_lw_1943 rfl ?_
  refine z_ldc2 X d_lw_1944 (v := 4294967295) cn_L_149 ?_
  refine z_land X d_lw_1947 ?_
  refine z_lor X d_lw_1948 ?_
  refine mx_callF (k := 0) (wa := wx') (rest := []) (As := [.int (xs (i + 1).toNatClampNeg), .int (xs (i + 2).toNatClampNeg), .int (xs (i + 3).toNatClampNeg), .long ((((((xs (i + 4).toNatClampNeg).toInt64) <<< (((32 : Int32)).toInt64 &&& 63))) ||| ((((xs (i + 5).toNatClampNeg).toInt64) &&& ((4294967295 : Int64)))))), .long ((((((xs (i + 6).toNatClampNeg).toInt64) <<< (((32 : Int32)).toInt64 &&& 63))) ||| ((((xs (i + 7).toNatClampNeg).toInt64) &&& ((4294967295 : Int64)))))), .long ((((((xs (i + 8).toNatClampNeg).toInt64) <<< (((32 : Int32)).toInt64 &&& 63))) ||| ((((xs (i + 9).toNatClampNeg).toInt64) &&& ((4294967295 : Int64))))))]) (μ := (fun k => ((Value.ref y :: [.int (xs (i + 1).toNatClampNeg), .int (xs (i + 2).toNatClampNeg), .int (xs (i + 3).toNatClampNeg), .long ((((((xs (i + 4).toNatClampNeg).toInt64) <<< (((32 : Int32)).toInt64 &&& 63))) ||| ((((xs (i + 5).toNatClampNeg).toInt64) &&& ((4294967295 : Int64)))))), .long ((((((xs (i + 6).toNatClampNeg).toInt64) <<< (((32 : Int32)).toInt64 &&& 63))) ||| ((((xs (i + 7).toNatClampNeg).toInt64) &&& ((4294967295 : Int64)))))), .long ((((((xs (i + 8).toNatClampNeg).toInt64) <<< (((32 : Int32)).toInt64 &&& 63))) ||| ((((xs (i + 9).toNatClampNeg).toInt64) &&& ((4294967295 : Int64))))))])[k]?).getD .null)) X k_L_195 (ac_X11_whose_0 l G) (by decide) (by decide) hy (fun ad w0 he => pre_mu (C := C_X11_whose_0) (ts := [tI0, tI0, tI0, tL0, tL0, tL0]) (As := [.int (xs (i + 1).toNatClampNeg), .int (xs (i + 2).toNatClampNeg), .int (xs (i + 3).toNatClampNeg), .long ((((((xs (i + 4).toNatClampNeg).toInt64) <<< (((32 : Int32)).toInt64 &&& 63))) ||| ((((xs (i + 5).toNatClampNeg).toInt64) &&& ((4294967295 : Int64)))))), .long ((((((xs (i + 6).toNatClampNeg).toInt64) <<< (((32 : Int32)).toInt64 &&& 63))) ||| ((((xs (i + 7).toNatClampNeg).toInt64) &&& ((4294967295 : Int64)))))), .long ((((((xs (i + 8).toNatClampNeg).toInt64) <<< (((32 : Int32)).toInt64 &&& 63))) ||| ((((xs (i + 9).toNatClampNeg).toInt64) &&& ((4294967295 : Int64))))))]) rfl rfl rfl rfl ⟨fun _ => vty_i0 _, fun _ => vty_i0 _, fun _ => vty_i0 _, fun _ => vty_l0 _, fun _ => vty_l0 _, fun _ => vty_l0 _, trivial⟩ ad w0 he) rfl d_lw_1949 ⟨by decide, by decide⟩ ⟨hc, hs⟩ rfl rfl (Nat.le_of_ble_eq_true rfl) rfl (fun r wm' hr hy' hfm => ?_)
  rcases hr with ⟨h, -⟩ | ⟨-, v, rfl⟩ | ⟨h, -⟩
  all_goals first | (exact absurd h (by decide)) | skip
  refine z_pop X d_lw_1952 rfl ?_
  refine z_goto X d_lw_1953 (tgt := 2192) (by decide) ?_
  exact hK wx' wm' hx' hl' hy' (RelQ.of (hR.m.keep hfx hfm (by decide)) (hR.a.keep hfx hfm (by decide)) (hR.d.keep hfx hfm (by decide)) (hR.c.keep hfx hfm (by decide)) (hR.x.keep hfx hfm (by decide)) (hR.b.keep hfx hfm (by decide)) (hR.h.keep hfx hfm (by decide)) (hR.t.keep hfx hfm (by decide)) (hR.k.keep hfx hfm (by decide)))
theorem lc_39 (X : ZC p s m #[Value.ref b] meth c code 8 RL G (fun q : Nat => s.heap.size ≤ q) ret nm) (hX : va_X b L xs s s.heap) (hbl : b < s.heap.size) (hbA : ¬ s.heap.size ≤ b) (hi0 : 0 ≤ i.toInt) (hi1 : i.toInt + 10 ≤ (L : Int) ∧ L ≤ 5120) (hx : CWx G x wx) (hy : MWx G y wm) (hR : RelQ G wx wm) (hc : kc ≤ room_1.cells) (hs : ks ≤ room_1.slots) (hK : ∀ wx' wm', CWx G x wx' → wx'.length = wx.length → MWx G y wm' → RelQ G wx' wm' → Z p l e room_1 s m #[Value.ref b] below meth c 8 G (fun q : Nat => s.heap.size ≤ q) (lw_Z below #[Value.ref b] s) 2192 (lv5 b x y o i) [] (wx' ++ wm' ++ [(o, aJ G 1 f)]) kc ks) : Z p l e room_1 s m #[Value.ref b] below meth c 8 G (fun q : Nat => s.heap.size ≤ q) (lw_Z below #[Value.ref b] s) 1956 (lv5 b x y o i) [] (wx ++ wm ++ [(o, aJ G 1 f)]) kc ks := by
  refine z_aload_n X d_lw_1956 rfl 1 rfl ?_
  refine z_aload_n X d_lw_1957 rfl 0 rfl ?_
  refine z_iload X d_lw_1958 4 rfl ?_
  refine z_iconst X d_lw_1960 (v := 1) (by decide) ?_
  refine z_iadd X d_lw_1961 ?_
  refine z_sld X hX hbl hbA (lw_in hi0 hi1 (k := 1) (by decide) (by decide)) d_lw_1962 (v := xs (i + 1).toNatClampNeg) rfl ?_
  rw [List.append_assoc]
  refine cx_callF (k := 0) (rest := []) (As := [.int (xs (i + 1).toNatClampNeg)]) (μ := (fun k => ((Value.ref x :: [.int (xs (i + 1).toNatClampNeg)])[k]?).getD .null)) X k_L_196 (ac_X10_part_0 l G) (by decide) (by decide) (by decide) hx (fun ad w0 he => pre_mu (C := C_X10_part_0) (ts := [tI0]) (As := [.int (xs (i + 1).toNatClampNeg)]) rfl rfl rfl rfl ⟨fun _ => vty_i0 _, trivial⟩ ad w0 he) rfl d_lw_1963 ⟨by decide, by decide⟩ ⟨hc, hs⟩ rfl rfl (by decide) rfl (fun r wx' hr hx' hl' hfx => ?_)
  rw [← List.append_assoc]
  rcases hr with ⟨h, -⟩ | ⟨-, v, rfl⟩ | ⟨h, -⟩
  all_goals first | (exact absurd h (by decide)) | skip
  refine z_pop X d_lw_1966 rfl ?_
  refine z_aload_n X d_lw_1967 rfl 2 rfl ?_
  refine z_aload_n X d_lw_1968 rfl 0 rfl ?_
  refine z_iload X d_lw_1969 4 rfl ?_
  refine z_iconst X d_lw_1971 (v := 1) (by decide) ?_
  refine z_iadd X d_lw_1972 ?_
  refine z_sld X hX hbl hbA (lw_in hi0 hi1 (k := 1) (by decide) (by decide)) d_lw_1973 (v := xs (i + 1).toNatClampNeg) rfl ?_
  refine mx_callF (k := 0) (wa := wx') (rest := []) (As := [.int (xs (i + 1).toNatClampNeg)]) (μ := (fun k => ((Value.ref y :: [.int (xs (i + 1).toNatClampNeg)])[k]?).getD .null)) X k_L_199 (ac_X11_part_0 l G) (by decide) (by decide) hy (fun ad w0 he => pre_mu (C := C_X11_part_0) (ts := [tI0]) (As := [.int (xs (i + 1).toNatClampNeg)]) rfl rfl rfl rfl ⟨fun _ => vty_i0 _, trivial⟩ ad w0 he) rfl d_lw_1974 ⟨by decide, by decide⟩ ⟨hc, hs⟩ rfl rfl (Nat.le_of_ble_eq_true rfl) rfl (fun r wm' hr hy' hfm => ?_)
  rcases hr with ⟨h, -⟩ | ⟨-, v, rfl⟩ | ⟨h, -⟩
  all_goals first | (exact absurd h (by decide)) | skip
  refine z_pop X d_lw_1977 rfl ?_
  refine z_goto X d_lw_1978 (tgt := 2192) (by decide) ?_
  exact hK wx' wm' hx' hl' hy' (RelQ.of (hR.m.keep hfx hfm (by decide)) (hR.a.keep hfx hfm (by decide)) (hR.d.keep hfx hfm (by decide)) (hR.c.keep hfx hfm (by decide)) (hR.x.keep hfx hfm (by decide)) (hR.b.keep hfx hfm (by decide)) (hR.h.keep hfx hfm (by decide)) (hR.t.keep hfx hfm (by decide)) (hR.k.keep hfx hfm (by decide)))
theorem lc_40 (X : ZC p s m #[Value.ref b] meth c code 8 RL G (fun q : Nat => s.heap.size ≤ q) ret nm) (hX : va_X b L xs s s.heap) (hbl : b < s.heap.size) (hbA : ¬ s.heap.size ≤ b) (hi0 : 0 ≤ i.toInt) (hi1 : i.toInt + 10 ≤ (L : Int) ∧ L ≤ 5120) (hx : CWx G x wx) (hy : MWx G y wm) (hR : RelQ G wx wm) (hc : kc ≤ room_1.cells) (hs : ks ≤ room_1.slots) (hK : ∀ wx' wm', CWx G x wx' → wx'.length = wx.length → MWx G y wm' → RelQ G wx' wm' → Z p l e room_1 s m #[Value.ref b] below meth c 8 G (fun q : Nat => s.heap.size ≤ q) (lw_Z below #[Value.ref b] s) 2192 (lv5 b x y o i) [] (wx' ++ wm' ++ [(o, aJ G 1 f)]) kc ks) : Z p l e room_1 s m #[Value.ref b] below meth c 8 G (fun q : Nat => s.heap.size ≤ q) (lw_Z below #[Value.ref b] s) 1981 (lv5 b x y o i) [] (wx ++ wm ++ [(o, aJ G 1 f)]) kc ks := by
  refine z_aload_n X d_lw_1981 rfl 1 rfl ?_
  refine z_aload_n X d_lw_1982 rfl 0 rfl ?_
  refine z_iload X d_lw_1983 4 rfl ?_
  refine z_iconst X d_lw_1985 (v := 1) (by decide) ?_
  refine z_iadd X d_lw_1986 ?_
  refine z_sld X hX hbl hbA (lw_in hi0 hi1 (k := 1) (by decide) (by decide)) d_lw_1987 (v := xs (i + 1).toNatClampNeg) rfl ?_
  refine z_aload_n X d_lw_1988 rfl 0 rfl ?_
  refine z_iload X d_lw_1989 4 rfl ?_
  refine z_iconst X d_lw_1991 (v := 2) (by decide) ?_
  refine z_iadd X d_lw_1992 ?_
  refine z_sld X hX hbl hbA (lw_in hi0 hi1 (k := 2) (by decide) (by decide)) d_lw_1993 (v := xs (i + 2).toNatClampNeg) rfl ?_
  refine z_i2l X d_lw_1994 rfl ?_
  refine z_bipush X d_lw_1995 (v := 32) (by decide) ?_
  refine z_lshl X d_lw_1997 (v := (((xs (i + 2).toNatClampNeg).toInt64) <<< (((32 : Int32)).toInt64 &&& 63))) rfl ?_
  refine z_aload_n X d_lw_1998 rfl 0 rfl ?_
  refine z_iload X d_lw_1999 4 rfl ?_
  refine z_iconst X d_lw_2001 (v := 3) (by decide) ?_
  refine z_iadd X d_lw_2002 ?_
  refine z_sld X hX hbl hbA (lw_in hi0 hi1 (k := 3) (by decide) (by decide)) d_lw_2003 (v := xs (i + 3).toNatClampNeg) rfl ?_
  refine z_i2l X d_lw_2004 rfl ?_
  refine z_ldc2 X d_lw_2005 (v := 4294967295) cn_L_149 ?_
  refine z_land X d_lw_2008 ?_
  refine z_lor X d_lw_2009 ?_
  rw [List.append_assoc]
  refine cx_callF (k := 0) (rest := []) (As := [.int (xs (i + 1).toNatClampNeg), .long ((((((xs (i + 2).toNatClampNeg).toInt64) <<< (((32 : Int32)).toInt64 &&& 63))) ||| ((((xs (i + 3).toNatClampNeg).toInt64) &&& ((4294967295 : Int64))))))]) (μ := (fun k => ((Value.ref x :: [.int (xs (i + 1).toNatClampNeg), .long ((((((xs (i + 2).toNatClampNeg).toInt64) <<< (((32 : Int32)).toInt64 &&& 63))) ||| ((((xs (i + 3).toNatClampNeg).toInt64) &&& ((4294967295 : Int64))))))])[k]?).getD .null)) X k_L_200 (ac_X10_buckets_0 l G) (by decide) (by decide) (by decide) hx (fun ad w0 he => pre_mu (C := C_X10_buckets_0) (ts := [tI0, tL0]) (As := [.int (xs (i + 1).toNatClampNeg), .long ((((((xs (i + 2).toNatClampNeg).toInt64) <<< (((32 : Int32)).toInt64 &&& 63))) ||| ((((xs (i + 3).toNatClampNeg).toInt64) &&& ((4294967295 : Int64))))))]) rfl rfl rfl rfl ⟨fun _ => vty_i0 _, fun _ => vty_l0 _, trivial⟩ ad w0 he) rfl d_lw_2010 ⟨by decide, by decide⟩ ⟨hc, hs⟩ rfl rfl (by decide) rfl (fun r wx' hr hx' hl' hfx => ?_)
  rw [← List.append_assoc]
  rcases hr with ⟨h, -⟩ | ⟨-, v, rfl⟩ | ⟨h, -⟩
  all_goals first | (exact absurd h (by decide)) | skip
  refine z_pop X d_lw_2013 rfl ?_
  refine z_aload_n X d_lw_2014 rfl 2 rfl ?_
  refine z_aload_n X d_lw_2015 rfl 0 rfl ?_
  refine z_iload X d_lw_2016 4 rfl ?_
  refine z_iconst X d_lw_2018 (v := 1) (by decide) ?_
  refine z_iadd X d_lw_2019 ?_
  refine z_sld X hX hbl hbA (lw_in hi0 hi1 (k := 1) (by decide) (by decide)) d_lw_2020 (v := xs (i + 1).toNatClampNeg) rfl ?_
  refine z_aload_n X d_lw_2021 rfl 0 rfl ?_
  refine z_iload X d_lw_2022 4 rfl ?_
  refine z_iconst X d_lw_2024 (v := 2) (by decide) ?_
  refine z_iadd X d_lw_2025 ?_
  refine z_sld X hX hbl hbA (lw_in hi0 hi1 (k := 2) (by decide) (by decide)) d_lw_2026 (v := xs (i + 2).toNatClampNeg) rfl ?_
  refine z_i2l X d_lw_2027 rfl ?_
  refine z_bipush X d_lw_2028 (v := 32) (by decide) ?_
  refine z_lshl X d_lw_2030 (v := (((xs (i + 2).toNatClampNeg).toInt64) <<< (((32 : Int32)).toInt64 &&& 63))) rfl ?_
  refine z_aload_n X d_lw_2031 rfl 0 rfl ?_
  refine z_iload X d_lw_2032 4 rfl ?_
  refine z_iconst X d_lw_2034 (v := 3) (by decide) ?_
  refine z_iadd X d_lw_2035 ?_
  refine z_sld X hX hbl hbA (lw_in hi0 hi1 (k := 3) (by decide) (by decide)) d_lw_2036 (v := xs (i + 3).toNatClampNeg) rfl ?_
  refine z_i2l X d_lw_2037 rfl ?_
  refine z_ldc2 X d_lw_2038 (v := 4294967295) cn_L_149 ?_
  refine z_land X d_lw_2041 ?_
  refine z_lor X d_lw_2042 ?_
  refine mx_callF (k := 0) (wa := wx') (rest := []) (As := [.int (xs (i + 1).toNatClampNeg), .long ((((((xs (i + 2).toNatClampNeg).toInt64) <<< (((32 : Int32)).toInt64 &&& 63))) ||| ((((xs (i + 3).toNatClampNeg).toInt64) &&& ((4294967295 : Int64))))))]) (μ := (fun k => ((Value.ref y :: [.int (xs (i + 1).toNatClampNeg), .long ((((((xs (i + 2).toNatClampNeg).toInt64) <<< (((32 : Int32)).toInt64 &&& 63))) ||| ((((xs (i + 3).toNatClampNeg).toInt64) &&& ((4294967295 : Int64))))))])[k]?).getD .null)) X k_L_203 (ac_buckets l G) (by decide) (by decide) hy (fun ad w0 he => pre_mu (C := C_buckets) (ts := [tI0, tL0]) (As := [.int (xs (i + 1).toNatClampNeg), .long ((((((xs (i + 2).toNatClampNeg).toInt64) <<< (((32 : Int32)).toInt64 &&& 63))) ||| ((((xs (i + 3).toNatClampNeg).toInt64) &&& ((4294967295 : Int64))))))]) rfl rfl rfl rfl ⟨fun _ => vty_i0 _, fun _ => vty_l0 _, trivial⟩ ad w0 he) rfl d_lw_2043 ⟨by decide, by decide⟩ ⟨hc, hs⟩ rfl rfl (Nat.le_of_ble_eq_true rfl) rfl (fun r wm' hr hy' hfm => ?_)
  rcases hr with ⟨h, -⟩ | ⟨-, v, rfl⟩ | ⟨h, -⟩
  all_goals first | (exact absurd h (by decide)) | skip
  refine z_pop X d_lw_2046 rfl ?_
  refine z_goto X d_lw_2047 (tgt := 2192) (by decide) ?_
  exact hK wx' wm' hx' hl' hy' (RelQ.of (hR.m.keep hfx hfm (by decide)) (hR.a.keep hfx hfm (by decide)) (hR.d.keep hfx hfm (by decide)) (hR.c.keep hfx hfm (by decide)) (hR.x.keep hfx hfm (by decide)) (hR.b.keep hfx hfm (by decide)) (hR.h.keep hfx hfm (by decide)) (hR.t.keep hfx hfm (by decide)) (hR.k.keep hfx hfm (by decide)))
theorem lc_41 (X : ZC p s m #[Value.ref b] meth c code 8 RL G (fun q : Nat => s.heap.size ≤ q) ret nm) (hX : va_X b L xs s s.heap) (hbl : b < s.heap.size) (hbA : ¬ s.heap.size ≤ b) (hi0 : 0 ≤ i.toInt) (hi1 : i.toInt + 10 ≤ (L : Int) ∧ L ≤ 5120) (hx : CWx G x wx) (hy : MWx G y wm) (hR : RelQ G wx wm) (hc : kc ≤ room_1.cells) (hs : ks ≤ room_1.slots) (hK : ∀ wx' wm', CWx G x wx' → wx'.length = wx.length → MWx G y wm' → RelQ G wx' wm' → Z p l e room_1 s m #[Value.ref b] below meth c 8 G (fun q : Nat => s.heap.size ≤ q) (lw_Z below #[Value.ref b] s) 2192 (lv5 b x y o i) [] (wx' ++ wm' ++ [(o, aJ G 1 f)]) kc ks) : Z p l e room_1 s m #[Value.ref b] below meth c 8 G (fun q : Nat => s.heap.size ≤ q) (lw_Z below #[Value.ref b] s) 2050 (lv5 b x y o i) [] (wx ++ wm ++ [(o, aJ G 1 f)]) kc ks := by
  refine z_aload_n X d_lw_2050 rfl 1 rfl ?_
  rw [List.append_assoc]
  refine cx_callF (k := 1) (rest := []) (As := []) (μ := (fun k => ((Value.ref x :: [])[k]?).getD .null)) X k_L_204 (ac_X10_cogs_0 l G) (by decide) (by decide) (by decide) hx (fun ad w0 he => pre_mu (C := C_X10_cogs_0) (ts := []) (As := []) rfl rfl rfl rfl trivial ad w0 he) rfl d_lw_2051 ⟨by decide, by decide⟩ ⟨hc, hs⟩ rfl rfl (by decide) rfl (fun r wx' hr hx' hl' hfx => ?_)
  rw [← List.append_assoc]
  rcases hr with ⟨h, -⟩ | ⟨h, -⟩ | ⟨-, v, rfl⟩
  all_goals first | (exact absurd h (by decide)) | skip
  refine z_pop2 X d_lw_2054 rfl ?_
  refine z_aload_n X d_lw_2055 rfl 2 rfl ?_
  refine mx_callF (k := 1) (wa := wx') (rest := []) (As := []) (μ := (fun k => ((Value.ref y :: [])[k]?).getD .null)) X k_L_207 (ac_X11_cogs_0 l G) (by decide) (by decide) hy (fun ad w0 he => pre_mu (C := C_X11_cogs_0) (ts := []) (As := []) rfl rfl rfl rfl trivial ad w0 he) rfl d_lw_2056 ⟨by decide, by decide⟩ ⟨hc, hs⟩ rfl rfl (Nat.le_of_ble_eq_true rfl) rfl (fun r wm' hr hy' hfm => ?_)
  rcases hr with ⟨h, -⟩ | ⟨h, -⟩ | ⟨-, v, rfl⟩
  all_goals first | (exact absurd h (by decide)) | skip
  refine z_pop2 X d_lw_2059 rfl ?_
  refine z_goto X d_lw_2060 (tgt := 2192) (by decide) ?_
  exact hK wx' wm' hx' hl' hy' (RelQ.of (hR.m.keep hfx hfm (by decide)) (hR.a.keep hfx hfm (by decide)) (hR.d.keep hfx hfm (by decide)) (hR.c.keep hfx hfm (by decide)) (hR.x.keep hfx hfm (by decide)) (hR.b.keep hfx hfm (by decide)) (hR.h.keep hfx hfm (by decide)) (hR.t.keep hfx hfm (by decide)) (hR.k.keep hfx hfm (by decide)))
theorem lc_42 (X : ZC p s m #[Value.ref b] meth c code 8 RL G (fun q : Nat => s.heap.size ≤ q) ret nm) (hX : va_X b L xs s s.heap) (hbl : b < s.heap.size) (hbA : ¬ s.heap.size ≤ b) (hi0 : 0 ≤ i.toInt) (hi1 : i.toInt + 10 ≤ (L : Int) ∧ L ≤ 5120) (hx : CWx G x wx) (hy : MWx G y wm) (hR : RelQ G wx wm) (hc : kc ≤ room_1.cells) (hs : ks ≤ room_1.slots) (hK : ∀ wx' wm', CWx G x wx' → wx'.length = wx.length → MWx G y wm' → RelQ G wx' wm' → Z p l e room_1 s m #[Value.ref b] below meth c 8 G (fun q : Nat => s.heap.size ≤ q) (lw_Z below #[Value.ref b] s) 2192 (lv5 b x y o i) [] (wx' ++ wm' ++ [(o, aJ G 1 f)]) kc ks) : Z p l e room_1 s m #[Value.ref b] below meth c 8 G (fun q : Nat => s.heap.size ≤ q) (lw_Z below #[Value.ref b] s) 2063 (lv5 b x y o i) [] (wx ++ wm ++ [(o, aJ G 1 f)]) kc ks := by
  refine z_aload_n X d_lw_2063 rfl 1 rfl ?_
  rw [List.append_assoc]
  refine cx_callF (k := 1) (rest := []) (As := []) (μ := (fun k => ((Value.ref x :: [])[k]?).getD .null)) X k_L_208 (ac_X10_order_0 l G) (by decide) (by decide) (by decide) hx (fun ad w0 he => pre_mu (C := C_X10_order_0) (ts := []) (As := []) rfl rfl rfl rfl trivial ad w0 he) rfl d_lw_2064 ⟨by decide, by decide⟩ ⟨hc, hs⟩ rfl rfl (by decide) rfl (fun r wx' hr hx' hl' hfx => ?_)
  rw [← List.append_assoc]
  rcases hr with ⟨h, -⟩ | ⟨h, -⟩ | ⟨-, v, rfl⟩
  all_goals first | (exact absurd h (by decide)) | skip
  refine z_pop2 X d_lw_2067 rfl ?_
  refine z_aload_n X d_lw_2068 rfl 2 rfl ?_
  refine mx_callF (k := 1) (wa := wx') (rest := []) (As := []) (μ := (fun k => ((Value.ref y :: [])[k]?).getD .null)) X k_L_211 (ac_X11_order_0 l G) (by decide) (by decide) hy (fun ad w0 he => pre_mu (C := C_X11_order_0) (ts := []) (As := []) rfl rfl rfl rfl trivial ad w0 he) rfl d_lw_2069 ⟨by decide, by decide⟩ ⟨hc, hs⟩ rfl rfl (Nat.le_of_ble_eq_true rfl) rfl (fun r wm' hr hy' hfm => ?_)
  rcases hr with ⟨h, -⟩ | ⟨h, -⟩ | ⟨-, v, rfl⟩
  all_goals first | (exact absurd h (by decide)) | skip
  refine z_pop2 X d_lw_2072 rfl ?_
  refine z_goto X d_lw_2073 (tgt := 2192) (by decide) ?_
  exact hK wx' wm' hx' hl' hy' (RelQ.of (hR.m.keep hfx hfm (by decide)) (hR.a.keep hfx hfm (by decide)) (hR.d.keep hfx hfm (by decide)) (hR.c.keep hfx hfm (by decide)) (hR.x.keep hfx hfm (by decide)) (hR.b.keep hfx hfm (by decide)) (hR.h.keep hfx hfm (by decide)) (hR.t.keep hfx hfm (by decide)) (hR.k.keep hfx hfm (by decide)))
theorem lc_43 (X : ZC p s m #[Value.ref b] meth c code 8 RL G (fun q : Nat => s.heap.size ≤ q) ret nm) (hX : va_X b L xs s s.heap) (hbl : b < s.heap.size) (hbA : ¬ s.heap.size ≤ b) (hi0 : 0 ≤ i.toInt) (hi1 : i.toInt + 10 ≤ (L : Int) ∧ L ≤ 5120) (hx : CWx G x wx) (hy : MWx G y wm) (hR : RelQ G wx wm) (hc : kc ≤ room_1.cells) (hs : ks ≤ room_1.slots) (hK : ∀ wx' wm', CWx G x wx' → wx'.length = wx.length → MWx G y wm' → RelQ G wx' wm' → Z p l e room_1 s m #[Value.ref b] below meth c 8 G (fun q : Nat => s.heap.size ≤ q) (lw_Z below #[Value.ref b] s) 2192 (lv5 b x y o i) [] (wx' ++ wm' ++ [(o, aJ G 1 f)]) kc ks) : Z p l e room_1 s m #[Value.ref b] below meth c 8 G (fun q : Nat => s.heap.size ≤ q) (lw_Z below #[Value.ref b] s) 2076 (lv5 b x y o i) [] (wx ++ wm ++ [(o, aJ G 1 f)]) kc ks := by
  obtain ⟨n, h9, s9, c9, f9, g9, ⟨n0, n1⟩, rc9, e9, ⟨hn1, hn2⟩, ⟨a2, b2⟩, ⟨a3, b3⟩, ⟨a4, b4⟩, a5, b5⟩ := id hR.m
  refine z_aload_n X d_lw_2076 rfl 1 rfl ?_
  obtain ⟨hh9, hq, hg, hr, x1, x2, x3, x4, x5, x6, x7⟩ := id hR.h
  obtain rfl := some_int (a2.symm.trans x1)
  obtain ⟨ha0, sa0, ca0, ⟨eh1, es1, ec1⟩, ⟨pq, pg, pa, pb, pe⟩, ⟨rq, rg, ra, rb, re⟩, ⟨fq, fg, fa, fb, fe⟩, ⟨oq, og, oa, ob1, oe⟩, ⟨wq, wg, wa1, wb1, we⟩⟩ := id hR.a
  obtain rfl := some_int (a2.symm.trans eh1)
  obtain rfl := some_int (a3.symm.trans es1)
  obtain rfl := some_int (a4.symm.trans ec1)
  obtain ⟨tq, tX9, tY9, t1, t2, t3, t4, t5⟩ := id hR.t
  obtain ⟨hd1, eh3, ⟨xq, xg, xa, xb, xe⟩, ⟨yq, yg, ya, yb, ye⟩⟩ := id hR.x
  obtain rfl := some_int (a2.symm.trans eh3)
  obtain ⟨hb9, sb9, cb9, ⟨bh1, bs1, bc1⟩, ⟨bx, bx1, bx2⟩, ⟨by_, by1, by2⟩, ⟨bf, bf1, bf2⟩, ⟨bo, bo1, bo2⟩, ⟨bw, bw1, bw2⟩⟩ := id hR.b
  obtain rfl := some_int (a2.symm.trans bh1)
  obtain rfl := some_int (a3.symm.trans bs1)
  obtain rfl := some_int (a4.symm.trans bc1)
  obtain rfl := arrinj (ra.symm.trans x4)
  obtain rfl := arrinj (xa.symm.trans bx1)
  obtain rfl := arrinj (ya.symm.trans by1)
  have r9_ := cwx_ints hx (k := 9) (n := 16) (a := 0) (b := 9) rfl rfl ra
  have q9_ := cwx_ints hx (k := 10) (n := 16) (a := 0) (b := 9) rfl rfl x2
  have p9_ := cwx_ints hx (k := 6) (n := 16) (a := 0) (b := 1) rfl rfl pa
  obtain rfl := arrinj (wa1.symm.trans bw1)
  rw [List.append_assoc]
  refine cx_callG (rm := { frames := 2, cells := 0, slots := 0, locals := 52 }) (m0 := C_X10_round_0.2.2.2.2.1) (Ψ := (fun r _ => ∃ v9 : Int32, r = some (.int v9) ∧ RdE wq xq yq c9.toInt h9.toInt v9)) (rest := []) (As := []) X k_L_212 (fun ad w0 hW hag => ac_rdx l G hW ((fget_eq (hag 5 0 (by decide))).trans a2) ((fget_eq (hag 18 0 (by decide))).trans a4) ((hag 7 0 (by decide)).trans xa) ((hag 8 0 (by decide)).trans ya) ((hag 19 0 (by decide)).trans wa1)) ⟨rfl, rfl⟩ (by decide) (fun r w1 wc hl h => h) hx d_lw_2077 ⟨by decide, by decide⟩ ⟨hc, hs⟩ rfl rfl (by decide) rfl (fun r wx' hz hx' hl' hfx => ?_)
  rw [← List.append_assoc]
  obtain ⟨v, rfl⟩ := (hz.elim fun v9 h => ⟨v9, h.1⟩ : ∃ v : Int32, r = some (Value.int v))
  refine z_aload_n X d_lw_2080 rfl 2 rfl ?_
  refine mx_callG (rm := { frames := 2, cells := 0, slots := 0, locals := 52 }) (m0 := C_round.2.2.2.2.1) (Ψ := (fun r _ => ∃ v9 : Int32, r = some (.int v9) ∧ RdE wg xg yg c9.toInt h9.toInt v9)) (wa := wx') (rest := [.int v]) (As := []) X k_L_215 (fun ad hW => ac_rdm l G hW b2 b4 xb yb wb1 (fun j hj => by rw [← we j (by omega) (by omega)]; exact bw2 j (by omega) (by omega)) (fun j hj => by rw [← xe j (by omega) (by omega)]; exact bx2 j (by omega) (by omega)) (fun j hj => by rw [← ye j (by omega) (by omega)]; exact by2 j (by omega) (by omega))) ⟨rfl, rfl⟩ hy d_lw_2081 ⟨by decide, by decide⟩ ⟨hc, hs⟩ rfl rfl (Nat.le_of_ble_eq_true rfl) rfl (fun r wm' hz2 hy' hfm => ?_)
  obtain ⟨v2, rfl⟩ := (hz2.elim fun v9 h => ⟨v9, h.1⟩ : ∃ v : Int32, r = some (Value.int v))
  obtain ⟨ev0, hM'⟩ := (⟨RdE.same (by omega) (fun j hj => we j (by omega) hj) (fun j hj => xe j (by omega) hj) (fun j hj => ye j (by omega) hj) (ex_rd hz) (ex_rd hz2), RelQ.of (hR.m.keep hfx hfm (by decide)) (hR.a.keep hfx hfm (by decide)) (hR.d.keep hfx hfm (by decide)) (hR.c.keep hfx hfm (by decide)) (hR.x.keep hfx hfm (by decide)) (hR.b.keep hfx hfm (by decide)) (hR.h.keep hfx hfm (by decide)) (hR.t.keep hfx hfm (by decide)) (hR.k.keep hfx hfm (by decide))⟩ : v = v2 ∧ RelQ G wx' wm')
  have hR' : RelQ G wx' wm' := hM'
  have ev : v.toInt = v2.toInt := congrArg Int32.toInt ev0
  refine zc_eq X d_lw_2084 (tgt := 2192) (by decide) (a := v.toInt) (b := v2.toInt) rfl rfl (fun _ => ?_) (fun h => absurd ev h)
  exact hK wx' wm' hx' hl' hy' hR'
theorem lc_44 (X : ZC p s m #[Value.ref b] meth c code 8 RL G (fun q : Nat => s.heap.size ≤ q) ret nm) (hX : va_X b L xs s s.heap) (hbl : b < s.heap.size) (hbA : ¬ s.heap.size ≤ b) (hi0 : 0 ≤ i.toInt) (hi1 : i.toInt + 10 ≤ (L : Int) ∧ L ≤ 5120) (hx : CWx G x wx) (hy : MWx G y wm) (hR : RelQ G wx wm) (hc : kc ≤ room_1.cells) (hs : ks ≤ room_1.slots) (hK : ∀ wx' wm', CWx G x wx' → wx'.length = wx.length → MWx G y wm' → RelQ G wx' wm' → Z p l e room_1 s m #[Value.ref b] below meth c 8 G (fun q : Nat => s.heap.size ≤ q) (lw_Z below #[Value.ref b] s) 2192 (lv5 b x y o i) [] (wx' ++ wm' ++ [(o, aJ G 1 f)]) kc ks) : Z p l e room_1 s m #[Value.ref b] below meth c 8 G (fun q : Nat => s.heap.size ≤ q) (lw_Z below #[Value.ref b] s) 2089 (lv5 b x y o i) [] (wx ++ wm ++ [(o, aJ G 1 f)]) kc ks := by
  obtain ⟨n, h9, s9, c9, f9, g9, ⟨n0, n1⟩, rc9, e9, ⟨hn1, hn2⟩, ⟨a2, b2⟩, ⟨a3, b3⟩, ⟨a4, b4⟩, a5, b5⟩ := id hR.m
  obtain ⟨hh9, hq, hg, hr, x1, x2, x3, x4, x5, x6, x7⟩ := id hR.h
  obtain rfl := some_int (a2.symm.trans x1)
  obtain ⟨ha0, sa0, ca0, ⟨eh1, es1, ec1⟩, ⟨pq, pg, pa, pb, pe⟩, ⟨rq, rg, ra, rb, re⟩, ⟨fq, fg, fa, fb, fe⟩, ⟨oq, og, oa, ob1, oe⟩, ⟨wq, wg, wa1, wb1, we⟩⟩ := id hR.a
  obtain rfl := some_int (a2.symm.trans eh1)
  obtain rfl := some_int (a3.symm.trans es1)
  obtain rfl := some_int (a4.symm.trans ec1)
  obtain ⟨tq, tX9, tY9, t1, t2, t3, t4, t5⟩ := id hR.t
  obtain rfl := arrinj (ra.symm.trans x4)
  obtain ⟨hk9, rk9, bq, kq, kh1, kh2, kh3, kh4, kz⟩ := id hR.k
  obtain rfl := some_int (a2.symm.trans kh1)
  obtain rfl := arrinj (ra.symm.trans kh2)
  refine z_aload_n X d_lw_2089 rfl 1 rfl ?_
  refine z_aload_n X d_lw_2090 rfl 0 rfl ?_
  refine z_iload X d_lw_2091 4 rfl ?_
  refine z_iconst X d_lw_2093 (v := 1) (by decide) ?_
  refine z_iadd X d_lw_2094 ?_
  refine z_sld X hX hbl hbA (lw_in hi0 hi1 (k := 1) (by decide) (by decide)) d_lw_2095 (v := xs (i + 1).toNatClampNeg) rfl ?_
  rcases (by omega : (xs (i + 1).toNatClampNeg).toInt ≤ -1 ∨ 3 ≤ (xs (i + 1).toNatClampNeg).toInt ∨ (xs (i + 1).toNatClampNeg).toInt = 0 ∨ (xs (i + 1).toNatClampNeg).toInt = 1 ∨ (xs (i + 1).toNatClampNeg).toInt = 2) with ha | ha | ha | ha | ha
  · skip
    rw [List.append_assoc]
    refine cx_callP (rest := []) (As := [.int (xs (i + 1).toNatClampNeg)]) (μ := (fun k => ((Value.ref x :: [.int (xs (i + 1).toNatClampNeg)])[k]?).getD .null)) X k_L_216 (ac_k_X10_keep_o0 l G) (by decide) hx (fun ad w0 he hag => pre_mu (C := C_k_X10_keep_o0) (ts := [(0, -2147483648, -1)]) (As := [.int (xs (i + 1).toNatClampNeg)]) rfl rfl rfl rfl ⟨fun _ => vty_i (i32_lo _) (by omega), trivial⟩ ad w0 he) rfl d_lw_2096 ⟨by decide, by decide⟩ ⟨hc, hs⟩ rfl rfl (by decide) rfl (fun ad r wx' hz hx' hl' => ?_)
    rw [← List.append_assoc]
    have hfx := pz_fx hz
    obtain ⟨v, ν, rfl, v0, v1, e50, eA, eF, hF, hL⟩ := pz_a hz rfl rfl rfl
    refine z_pop X d_lw_2099 rfl ?_
    refine z_aload_n X d_lw_2100 rfl 2 rfl ?_
    refine z_aload_n X d_lw_2101 rfl 0 rfl ?_
    refine z_iload X d_lw_2102 4 rfl ?_
    refine z_iconst X d_lw_2104 (v := 1) (by decide) ?_
    refine z_iadd X d_lw_2105 ?_
    refine z_sld X hX hbl hbA (lw_in hi0 hi1 (k := 1) (by decide) (by decide)) d_lw_2106 (v := xs (i + 1).toNatClampNeg) rfl ?_
    refine mx_callP (wa := wx') (rest := []) (As := [.int (xs (i + 1).toNatClampNeg)]) (μ := (fun k => ((Value.ref y :: [.int (xs (i + 1).toNatClampNeg)])[k]?).getD .null)) X k_L_219 (ac_X11_keep_0 l G) hy (fun ad he => pre_mu (C := C_X11_keep_0) (ts := [(0, -2147483648, -1)]) (As := [.int (xs (i + 1).toNatClampNeg)]) rfl rfl rfl rfl ⟨fun _ => vty_i (i32_lo _) (by omega), trivial⟩ ad wm he) rfl d_lw_2107 ⟨by decide, by decide⟩ ⟨hc, hs⟩ rfl rfl (Nat.le_of_ble_eq_true rfl) rfl (fun ad2 r wm' hz2 hy' => ?_)
    have hfm := pz_fx hz2
    obtain ⟨v2, ν2, rfl, w0, w1, f50, fA, fF, hF2, hL2⟩ := pz_a hz2 rfl rfl rfl
    have hR' : RelQ G wx' wm' := RelQ.of (hR.m.keep hfx hfm (by decide)) (hR.a.keep hfx hfm (by decide)) (hR.d.keep hfx hfm (by decide)) (hR.c.keep hfx hfm (by decide)) (hR.x.keep hfx hfm (by decide)) (hR.b.keep hfx hfm (by decide)) (hR.h.keep hfx hfm (by decide)) (hR.t.keep hfx hfm (by decide)) (hR.k.keep hfx hfm (by decide))
    refine z_pop X d_lw_2110 rfl ?_
    refine z_goto X d_lw_2111 (tgt := 2192) (by decide) ?_
    exact hK wx' wm' hx' hl' hy' hR'
  · skip
    rw [List.append_assoc]
    refine cx_callP (rest := []) (As := [.int (xs (i + 1).toNatClampNeg)]) (μ := (fun k => ((Value.ref x :: [.int (xs (i + 1).toNatClampNeg)])[k]?).getD .null)) X k_L_216 (ac_k_X10_keep_o1 l G) (by decide) hx (fun ad w0 he hag => pre_mu (C := C_k_X10_keep_o1) (ts := [(0, 3, 2147483647)]) (As := [.int (xs (i + 1).toNatClampNeg)]) rfl rfl rfl rfl ⟨fun _ => vty_i (by omega) (i32_hi _), trivial⟩ ad w0 he) rfl d_lw_2096 ⟨by decide, by decide⟩ ⟨hc, hs⟩ rfl rfl (by decide) rfl (fun ad r wx' hz hx' hl' => ?_)
    rw [← List.append_assoc]
    have hfx := pz_fx hz
    obtain ⟨v, ν, rfl, v0, v1, e50, eA, eF, hF, hL⟩ := pz_a hz rfl rfl rfl
    refine z_pop X d_lw_2099 rfl ?_
    refine z_aload_n X d_lw_2100 rfl 2 rfl ?_
    refine z_aload_n X d_lw_2101 rfl 0 rfl ?_
    refine z_iload X d_lw_2102 4 rfl ?_
    refine z_iconst X d_lw_2104 (v := 1) (by decide) ?_
    refine z_iadd X d_lw_2105 ?_
    refine z_sld X hX hbl hbA (lw_in hi0 hi1 (k := 1) (by decide) (by decide)) d_lw_2106 (v := xs (i + 1).toNatClampNeg) rfl ?_
    refine mx_callP (wa := wx') (rest := []) (As := [.int (xs (i + 1).toNatClampNeg)]) (μ := (fun k => ((Value.ref y :: [.int (xs (i + 1).toNatClampNeg)])[k]?).getD .null)) X k_L_219 (ac_X11_keep_4 l G) hy (fun ad he => pre_mu (C := C_X11_keep_4) (ts := [(0, 3, 2147483647)]) (As := [.int (xs (i + 1).toNatClampNeg)]) rfl rfl rfl rfl ⟨fun _ => vty_i (by omega) (i32_hi _), trivial⟩ ad wm he) rfl d_lw_2107 ⟨by decide, by decide⟩ ⟨hc, hs⟩ rfl rfl (Nat.le_of_ble_eq_true rfl) rfl (fun ad2 r wm' hz2 hy' => ?_)
    have hfm := pz_fx hz2
    obtain ⟨v2, ν2, rfl, w0, w1, f50, fA, fF, hF2, hL2⟩ := pz_a hz2 rfl rfl rfl
    have hR' : RelQ G wx' wm' := RelQ.of (hR.m.keep hfx hfm (by decide)) (hR.a.keep hfx hfm (by decide)) (hR.d.keep hfx hfm (by decide)) (hR.c.keep hfx hfm (by decide)) (hR.x.keep hfx hfm (by decide)) (hR.b.keep hfx hfm (by decide)) (hR.h.keep hfx hfm (by decide)) (hR.t.keep hfx hfm (by decide)) (hR.k.keep hfx hfm (by decide))
    refine z_pop X d_lw_2110 rfl ?_
    refine z_goto X d_lw_2111 (tgt := 2192) (by decide) ?_
    exact hK wx' wm' hx' hl' hy' hR'
  · skip
    have hv : xs (i + 1).toNatClampNeg = 0 := Int32.toInt_inj.mp (by have z : (0 : Int32).toInt = 0 := (by decide); omega)
    rw [List.append_assoc]
    refine cx_callG (rm := { frames := 3, cells := 0, slots := 0, locals := 68 }) (m0 := C_k_X10_keep_0.2.2.2.2.1) (Ψ := (fun r w1 => (∃ v : Int32, r = some (.int v) ∧ v = 1) ∧ fget w1 46 0 = some (.int 1) ∧ CQ G w1 47 16 hq ∧ CQ G w1 48 8 tq)) (rest := []) (As := [.int (xs (i + 1).toNatClampNeg)]) X k_L_216 (fun ad w0 hW hag => (by rw [hv]; exact ac_kqx0 l G hW ((hag 10 0 (by decide)).trans x2) ((hag 105 0 (by decide)).trans t1))) ⟨rfl, rfl⟩ (by decide) (fun r w1 wc hl h => ⟨h.1, by rw [fget_app (by omega)]; exact h.2.1, h.2.2.1.app (by omega), h.2.2.2.app (by omega)⟩) hx d_lw_2096 ⟨by decide, by decide⟩ ⟨hc, hs⟩ rfl rfl (by decide) rfl (fun r wx' hz hx' hl' hfx => ?_)
    rw [← List.append_assoc]
    obtain ⟨v, rfl⟩ := (hz.1.elim fun v9 h => ⟨v9, h.1⟩ : ∃ v : Int32, r = some (Value.int v))
    refine z_pop X d_lw_2099 rfl ?_
    refine z_aload_n X d_lw_2100 rfl 2 rfl ?_
    refine z_aload_n X d_lw_2101 rfl 0 rfl ?_
    refine z_iload X d_lw_2102 4 rfl ?_
    refine z_iconst X d_lw_2104 (v := 1) (by decide) ?_
    refine z_iadd X d_lw_2105 ?_
    refine z_sld X hX hbl hbA (lw_in hi0 hi1 (k := 1) (by decide) (by decide)) d_lw_2106 (v := xs (i + 1).toNatClampNeg) rfl ?_
    refine mx_callG (rm := { frames := 1, cells := 0, slots := 0, locals := 25 }) (m0 := C_X11_keep_1.2.2.2.2.1) (Ψ := KpQ G 0 h9.toInt bq kq hg tX9 tY9) (wa := wx') (rest := []) (As := [.int (xs (i + 1).toNatClampNeg)]) X k_L_219 (fun ad hW => ac_kqm0 l G hW ha b2 kh3 kh4 x3 t2 t3) ⟨rfl, rfl⟩ hy d_lw_2107 ⟨by decide, by decide⟩ ⟨hc, hs⟩ rfl rfl (Nat.le_of_ble_eq_true rfl) rfl (fun r wm' hz2 hy' hfm => ?_)
    obtain ⟨v2, rfl⟩ := (⟨_, hz2.1⟩ : ∃ v : Int32, r = some (Value.int v))
    obtain ⟨ev0, hM'⟩ := (⟨trivial, RelKh.kp hR.k hfx (i := 0) (by decide) ⟨fun j hj hne => by rcases (by omega : j = 0 ∨ j = 1 ∨ j = 2) with rfl | rfl | rfl <;> first | exact absurd rfl hne | decide, by decide, by decide⟩ a2 ra kh3 kh4 hz.2 hz2 x5 x6 x7 t4 t5⟩ : True ∧ RelKh G wx' wm')
    have hR' : RelQ G wx' wm' := RelQ.of (hR.m.keep hfx hfm (by decide)) (hR.a.keep hfx hfm (by decide)) (hR.d.keep hfx hfm (by decide)) (hR.c.keep hfx hfm (by decide)) (hR.x.keep hfx hfm (by decide)) (hR.b.keep hfx hfm (by decide)) (hR.h.keep hfx hfm (by decide)) (hR.t.keep hfx hfm (by decide)) (hM')
    refine z_pop X d_lw_2110 rfl ?_
    refine z_goto X d_lw_2111 (tgt := 2192) (by decide) ?_
    exact hK wx' wm' hx' hl' hy' hR'
  · skip
    have hv : xs (i + 1).toNatClampNeg = 1 := Int32.toInt_inj.mp (by have z : (1 : Int32).toInt = 1 := (by decide); omega)
    rw [List.append_assoc]
    refine cx_callG (rm := { frames := 3, cells := 0, slots := 0, locals := 68 }) (m0 := C_k_X10_keep_1.2.2.2.2.1) (Ψ := (fun r w1 => (∃ v : Int32, r = some (.int v) ∧ v = 1) ∧ fget w1 65 0 = some (.int 1) ∧ CQ G w1 66 16 hq ∧ CQ G w1 67 8 tq)) (rest := []) (As := [.int (xs (i + 1).toNatClampNeg)]) X k_L_216 (fun ad w0 hW hag => (by rw [hv]; exact ac_kqx1 l G hW ((hag 10 0 (by decide)).trans x2) ((hag 105 0 (by decide)).trans t1))) ⟨rfl, rfl⟩ (by decide) (fun r w1 wc hl h => ⟨h.1, by rw [fget_app (by omega)]; exact h.2.1, h.2.2.1.app (by omega), h.2.2.2.app (by omega)⟩) hx d_lw_2096 ⟨by decide, by decide⟩ ⟨hc, hs⟩ rfl rfl (by decide) rfl (fun r wx' hz hx' hl' hfx => ?_)
    rw [← List.append_assoc]
    obtain ⟨v, rfl⟩ := (hz.1.elim fun v9 h => ⟨v9, h.1⟩ : ∃ v : Int32, r = some (Value.int v))
    refine z_pop X d_lw_2099 rfl ?_
    refine z_aload_n X d_lw_2100 rfl 2 rfl ?_
    refine z_aload_n X d_lw_2101 rfl 0 rfl ?_
    refine z_iload X d_lw_2102 4 rfl ?_
    refine z_iconst X d_lw_2104 (v := 1) (by decide) ?_
    refine z_iadd X d_lw_2105 ?_
    refine z_sld X hX hbl hbA (lw_in hi0 hi1 (k := 1) (by decide) (by decide)) d_lw_2106 (v := xs (i + 1).toNatClampNeg) rfl ?_
    refine mx_callG (rm := { frames := 1, cells := 0, slots := 0, locals := 25 }) (m0 := C_X11_keep_2.2.2.2.2.1) (Ψ := KpQ G 1 h9.toInt bq kq hg tX9 tY9) (wa := wx') (rest := []) (As := [.int (xs (i + 1).toNatClampNeg)]) X k_L_219 (fun ad hW => ac_kqm1 l G hW ha b2 kh3 kh4 x3 t2 t3) ⟨rfl, rfl⟩ hy d_lw_2107 ⟨by decide, by decide⟩ ⟨hc, hs⟩ rfl rfl (Nat.le_of_ble_eq_true rfl) rfl (fun r wm' hz2 hy' hfm => ?_)
    obtain ⟨v2, rfl⟩ := (⟨_, hz2.1⟩ : ∃ v : Int32, r = some (Value.int v))
    obtain ⟨ev0, hM'⟩ := (⟨trivial, RelKh.kp hR.k hfx (i := 1) (by decide) ⟨fun j hj hne => by rcases (by omega : j = 0 ∨ j = 1 ∨ j = 2) with rfl | rfl | rfl <;> first | exact absurd rfl hne | decide, by decide, by decide⟩ a2 ra kh3 kh4 hz.2 hz2 x5 x6 x7 t4 t5⟩ : True ∧ RelKh G wx' wm')
    have hR' : RelQ G wx' wm' := RelQ.of (hR.m.keep hfx hfm (by decide)) (hR.a.keep hfx hfm (by decide)) (hR.d.keep hfx hfm (by decide)) (hR.c.keep hfx hfm (by decide)) (hR.x.keep hfx hfm (by decide)) (hR.b.keep hfx hfm (by decide)) (hR.h.keep hfx hfm (by decide)) (hR.t.keep hfx hfm (by decide)) (hM')
    refine z_pop X d_lw_2110 rfl ?_
    refine z_goto X d_lw_2111 (tgt := 2192) (by decide) ?_
    exact hK wx' wm' hx' hl' hy' hR'
  · skip
    have hv : xs (i + 1).toNatClampNeg = 2 := Int32.toInt_inj.mp (by have z : (2 : Int32).toInt = 2 := (by decide); omega)
    rw [List.append_assoc]
    refine cx_callG (rm := { frames := 3, cells := 0, slots := 0, locals := 68 }) (m0 := C_k_X10_keep_2.2.2.2.2.1) (Ψ := (fun r w1 => (∃ v : Int32, r = some (.int v) ∧ v = 1) ∧ fget w1 84 0 = some (.int 1) ∧ CQ G w1 85 16 hq ∧ CQ G w1 86 8 tq)) (rest := []) (As := [.int (xs (i + 1).toNatClampNeg)]) X k_L_216 (fun ad w0 hW hag => (by rw [hv]; exact ac_kqx2 l G hW ((hag 10 0 (by decide)).trans x2) ((hag 105 0 (by decide)).trans t1))) ⟨rfl, rfl⟩ (by decide) (fun r w1 wc hl h => ⟨h.1, by rw [fget_app (by omega)]; exact h.2.1, h.2.2.1.app (by omega), h.2.2.2.app (by omega)⟩) hx d_lw_2096 ⟨by decide, by decide⟩ ⟨hc, hs⟩ rfl rfl (by decide) rfl (fun r wx' hz hx' hl' hfx => ?_)
    rw [← List.append_assoc]
    obtain ⟨v, rfl⟩ := (hz.1.elim fun v9 h => ⟨v9, h.1⟩ : ∃ v : Int32, r = some (Value.int v))
    refine z_pop X d_lw_2099 rfl ?_
    refine z_aload_n X d_lw_2100 rfl 2 rfl ?_
    refine z_aload_n X d_lw_2101 rfl 0 rfl ?_
    refine z_iload X d_lw_2102 4 rfl ?_
    refine z_iconst X d_lw_2104 (v := 1) (by decide) ?_
    refine z_iadd X d_lw_2105 ?_
    refine z_sld X hX hbl hbA (lw_in hi0 hi1 (k := 1) (by decide) (by decide)) d_lw_2106 (v := xs (i + 1).toNatClampNeg) rfl ?_
    refine mx_callG (rm := { frames := 1, cells := 0, slots := 0, locals := 25 }) (m0 := C_X11_keep_3.2.2.2.2.1) (Ψ := KpQ G 2 h9.toInt bq kq hg tX9 tY9) (wa := wx') (rest := []) (As := [.int (xs (i + 1).toNatClampNeg)]) X k_L_219 (fun ad hW => ac_kqm2 l G hW ha b2 kh3 kh4 x3 t2 t3) ⟨rfl, rfl⟩ hy d_lw_2107 ⟨by decide, by decide⟩ ⟨hc, hs⟩ rfl rfl (Nat.le_of_ble_eq_true rfl) rfl (fun r wm' hz2 hy' hfm => ?_)
    obtain ⟨v2, rfl⟩ := (⟨_, hz2.1⟩ : ∃ v : Int32, r = some (Value.int v))
    obtain ⟨ev0, hM'⟩ := (⟨trivial, RelKh.kp hR.k hfx (i := 2) (by decide) ⟨fun j hj hne => by rcases (by omega : j = 0 ∨ j = 1 ∨ j = 2) with rfl | rfl | rfl <;> first | exact absurd rfl hne | decide, by decide, by decide⟩ a2 ra kh3 kh4 hz.2 hz2 x5 x6 x7 t4 t5⟩ : True ∧ RelKh G wx' wm')
    have hR' : RelQ G wx' wm' := RelQ.of (hR.m.keep hfx hfm (by decide)) (hR.a.keep hfx hfm (by decide)) (hR.d.keep hfx hfm (by decide)) (hR.c.keep hfx hfm (by decide)) (hR.x.keep hfx hfm (by decide)) (hR.b.keep hfx hfm (by decide)) (hR.h.keep hfx hfm (by decide)) (hR.t.keep hfx hfm (by decide)) (hM')
    refine z_pop X d_lw_2110 rfl ?_
    refine z_goto X d_lw_2111 (tgt := 2192) (by decide) ?_
    exact hK wx' wm' hx' hl' hy' hR'
theorem lc_45 (X : ZC p s m #[Value.ref b] meth c code 8 RL G (fun q : Nat => s.heap.size ≤ q) ret nm) (hX : va_X b L xs s s.heap) (hbl : b < s.heap.size) (hbA : ¬ s.heap.size ≤ b) (hi0 : 0 ≤ i.toInt) (hi1 : i.toInt + 10 ≤ (L : Int) ∧ L ≤ 5120) (hx : CWx G x wx) (hy : MWx G y wm) (hR : RelQ G wx wm) (hc : kc ≤ room_1.cells) (hs : ks ≤ room_1.slots) (hK : ∀ wx' wm', CWx G x wx' → wx'.length = wx.length → MWx G y wm' → RelQ G wx' wm' → Z p l e room_1 s m #[Value.ref b] below meth c 8 G (fun q : Nat => s.heap.size ≤ q) (lw_Z below #[Value.ref b] s) 2192 (lv5 b x y o i) [] (wx' ++ wm' ++ [(o, aJ G 1 f)]) kc ks) : Z p l e room_1 s m #[Value.ref b] below meth c 8 G (fun q : Nat => s.heap.size ≤ q) (lw_Z below #[Value.ref b] s) 2114 (lv5 b x y o i) [] (wx ++ wm ++ [(o, aJ G 1 f)]) kc ks := by
  obtain ⟨n, h9, s9, c9, f9, g9, ⟨n0, n1⟩, rc9, e9, ⟨hn1, hn2⟩, ⟨a2, b2⟩, ⟨a3, b3⟩, ⟨a4, b4⟩, a5, b5⟩ := id hR.m
  obtain ⟨hh9, hq, hg, hr, x1, x2, x3, x4, x5, x6, x7⟩ := id hR.h
  obtain rfl := some_int (a2.symm.trans x1)
  obtain ⟨ha0, sa0, ca0, ⟨eh1, es1, ec1⟩, ⟨pq, pg, pa, pb, pe⟩, ⟨rq, rg, ra, rb, re⟩, ⟨fq, fg, fa, fb, fe⟩, ⟨oq, og, oa, ob1, oe⟩, ⟨wq, wg, wa1, wb1, we⟩⟩ := id hR.a
  obtain rfl := some_int (a2.symm.trans eh1)
  obtain rfl := some_int (a3.symm.trans es1)
  obtain rfl := some_int (a4.symm.trans ec1)
  obtain ⟨tq, tX9, tY9, t1, t2, t3, t4, t5⟩ := id hR.t
  obtain rfl := arrinj (ra.symm.trans x4)
  obtain ⟨hk9, rk9, bq, kq, kh1, kh2, kh3, kh4, kz⟩ := id hR.k
  obtain rfl := some_int (a2.symm.trans kh1)
  obtain rfl := arrinj (ra.symm.trans kh2)
  refine z_aload_n X d_lw_2114 rfl 1 rfl ?_
  refine z_aload_n X d_lw_2115 rfl 0 rfl ?_
  refine z_iload X d_lw_2116 4 rfl ?_
  refine z_iconst X d_lw_2118 (v := 1) (by decide) ?_
  refine z_iadd X d_lw_2119 ?_
  refine z_sld X hX hbl hbA (lw_in hi0 hi1 (k := 1) (by decide) (by decide)) d_lw_2120 (v := xs (i + 1).toNatClampNeg) rfl ?_
  rcases (by omega : (xs (i + 1).toNatClampNeg).toInt ≤ -1 ∨ 3 ≤ (xs (i + 1).toNatClampNeg).toInt ∨ (xs (i + 1).toNatClampNeg).toInt = 0 ∨ (xs (i + 1).toNatClampNeg).toInt = 1 ∨ (xs (i + 1).toNatClampNeg).toInt = 2) with ha | ha | ha | ha | ha
  · skip
    rw [List.append_assoc]
    refine cx_callP (rest := []) (As := [.int (xs (i + 1).toNatClampNeg)]) (μ := (fun k => ((Value.ref x :: [.int (xs (i + 1).toNatClampNeg)])[k]?).getD .null)) X k_L_220 (ac_k_X10_again_o0 l G) (by decide) hx (fun ad w0 he hag => pre_mu (C := C_k_X10_again_o0) (ts := [(0, -2147483648, -1)]) (As := [.int (xs (i + 1).toNatClampNeg)]) rfl rfl rfl rfl ⟨fun _ => vty_i (i32_lo _) (by omega), trivial⟩ ad w0 he) rfl d_lw_2121 ⟨by decide, by decide⟩ ⟨hc, hs⟩ rfl rfl (by decide) rfl (fun ad r wx' hz hx' hl' => ?_)
    rw [← List.append_assoc]
    have hfx := pz_fx hz
    obtain ⟨v, ν, rfl, v0, v1, e50, eA, eF, hF, hL⟩ := pz_a hz rfl rfl rfl
    refine z_pop X d_lw_2124 rfl ?_
    refine z_aload_n X d_lw_2125 rfl 2 rfl ?_
    refine z_aload_n X d_lw_2126 rfl 0 rfl ?_
    refine z_iload X d_lw_2127 4 rfl ?_
    refine z_iconst X d_lw_2129 (v := 1) (by decide) ?_
    refine z_iadd X d_lw_2130 ?_
    refine z_sld X hX hbl hbA (lw_in hi0 hi1 (k := 1) (by decide) (by decide)) d_lw_2131 (v := xs (i + 1).toNatClampNeg) rfl ?_
    refine mx_callP (wa := wx') (rest := []) (As := [.int (xs (i + 1).toNatClampNeg)]) (μ := (fun k => ((Value.ref y :: [.int (xs (i + 1).toNatClampNeg)])[k]?).getD .null)) X k_L_223 (ac_X11_again_0 l G) hy (fun ad he => pre_mu (C := C_X11_again_0) (ts := [(0, -2147483648, -1)]) (As := [.int (xs (i + 1).toNatClampNeg)]) rfl rfl rfl rfl ⟨fun _ => vty_i (i32_lo _) (by omega), trivial⟩ ad wm he) rfl d_lw_2132 ⟨by decide, by decide⟩ ⟨hc, hs⟩ rfl rfl (Nat.le_of_ble_eq_true rfl) rfl (fun ad2 r wm' hz2 hy' => ?_)
    have hfm := pz_fx hz2
    obtain ⟨v2, ν2, rfl, w0, w1, f50, fA, fF, hF2, hL2⟩ := pz_a hz2 rfl rfl rfl
    have hR' : RelQ G wx' wm' := RelQ.of (hR.m.keep hfx hfm (by decide)) (hR.a.keep hfx hfm (by decide)) (hR.d.keep hfx hfm (by decide)) (hR.c.keep hfx hfm (by decide)) (hR.x.keep hfx hfm (by decide)) (hR.b.keep hfx hfm (by decide)) (hR.h.keep hfx hfm (by decide)) (hR.t.keep hfx hfm (by decide)) (hR.k.keep hfx hfm (by decide))
    refine z_pop X d_lw_2135 rfl ?_
    refine z_goto X d_lw_2136 (tgt := 2192) (by decide) ?_
    exact hK wx' wm' hx' hl' hy' hR'
  · skip
    rw [List.append_assoc]
    refine cx_callP (rest := []) (As := [.int (xs (i + 1).toNatClampNeg)]) (μ := (fun k => ((Value.ref x :: [.int (xs (i + 1).toNatClampNeg)])[k]?).getD .null)) X k_L_220 (ac_k_X10_again_o1 l G) (by decide) hx (fun ad w0 he hag => pre_mu (C := C_k_X10_again_o1) (ts := [(0, 3, 2147483647)]) (As := [.int (xs (i + 1).toNatClampNeg)]) rfl rfl rfl rfl ⟨fun _ => vty_i (by omega) (i32_hi _), trivial⟩ ad w0 he) rfl d_lw_2121 ⟨by decide, by decide⟩ ⟨hc, hs⟩ rfl rfl (by decide) rfl (fun ad r wx' hz hx' hl' => ?_)
    rw [← List.append_assoc]
    have hfx := pz_fx hz
    obtain ⟨v, ν, rfl, v0, v1, e50, eA, eF, hF, hL⟩ := pz_a hz rfl rfl rfl
    refine z_pop X d_lw_2124 rfl ?_
    refine z_aload_n X d_lw_2125 rfl 2 rfl ?_
    refine z_aload_n X d_lw_2126 rfl 0 rfl ?_
    refine z_iload X d_lw_2127 4 rfl ?_
    refine z_iconst X d_lw_2129 (v := 1) (by decide) ?_
    refine z_iadd X d_lw_2130 ?_
    refine z_sld X hX hbl hbA (lw_in hi0 hi1 (k := 1) (by decide) (by decide)) d_lw_2131 (v := xs (i + 1).toNatClampNeg) rfl ?_
    refine mx_callP (wa := wx') (rest := []) (As := [.int (xs (i + 1).toNatClampNeg)]) (μ := (fun k => ((Value.ref y :: [.int (xs (i + 1).toNatClampNeg)])[k]?).getD .null)) X k_L_223 (ac_X11_again_4 l G) hy (fun ad he => pre_mu (C := C_X11_again_4) (ts := [(0, 3, 2147483647)]) (As := [.int (xs (i + 1).toNatClampNeg)]) rfl rfl rfl rfl ⟨fun _ => vty_i (by omega) (i32_hi _), trivial⟩ ad wm he) rfl d_lw_2132 ⟨by decide, by decide⟩ ⟨hc, hs⟩ rfl rfl (Nat.le_of_ble_eq_true rfl) rfl (fun ad2 r wm' hz2 hy' => ?_)
    have hfm := pz_fx hz2
    obtain ⟨v2, ν2, rfl, w0, w1, f50, fA, fF, hF2, hL2⟩ := pz_a hz2 rfl rfl rfl
    have hR' : RelQ G wx' wm' := RelQ.of (hR.m.keep hfx hfm (by decide)) (hR.a.keep hfx hfm (by decide)) (hR.d.keep hfx hfm (by decide)) (hR.c.keep hfx hfm (by decide)) (hR.x.keep hfx hfm (by decide)) (hR.b.keep hfx hfm (by decide)) (hR.h.keep hfx hfm (by decide)) (hR.t.keep hfx hfm (by decide)) (hR.k.keep hfx hfm (by decide))
    refine z_pop X d_lw_2135 rfl ?_
    refine z_goto X d_lw_2136 (tgt := 2192) (by decide) ?_
    exact hK wx' wm' hx' hl' hy' hR'
  · skip
    have hv : xs (i + 1).toNatClampNeg = 0 := Int32.toInt_inj.mp (by have z : (0 : Int32).toInt = 0 := (by decide); omega)
    obtain ⟨fl_, qk_, tk_, y1, y2, y3, y4, y5, y6, y7⟩ := id (kz 0 (by decide))
    have ya : bq (xs (i + 1).toNatClampNeg).toNatClampNeg = fl_ := by rw [show (xs (i + 1).toNatClampNeg).toNatClampNeg = 0 from congrArg Int.toNat ha]; exact y4
    rcases (by omega : fl_.toInt = 1 ∨ fl_.toInt = 0) with hf | hf
    · skip
      rw [List.append_assoc]
      refine cx_callG (rm := { frames := 3, cells := 0, slots := 0, locals := 68 }) (m0 := C_k_X10_again_0.2.2.2.2.1) (Ψ := (fun r w1 => (∃ v : Int32, r = some (.int v) ∧ v = 1) ∧ CQ G w1 10 16 qk_ ∧ CQ G w1 105 8 tk_)) (rest := []) (As := [.int (xs (i + 1).toNatClampNeg)]) X k_L_220 (fun ad w0 hW hag => (by rw [hv]; exact ac_gqx0 l G hW ((fget_eq (hag 46 0 (by decide))).trans y1) (by omega) ((hag 47 0 (by decide)).trans y2) ((hag 48 0 (by decide)).trans y3))) ⟨rfl, rfl⟩ (by decide) (fun r w1 wc hl h => ⟨h.1, h.2.1.app (by omega), h.2.2.app (by omega)⟩) hx d_lw_2121 ⟨by decide, by decide⟩ ⟨hc, hs⟩ rfl rfl (by decide) rfl (fun r wx' hz hx' hl' hfx => ?_)
      rw [← List.append_assoc]
      obtain ⟨v, rfl⟩ := (hz.1.elim fun v9 h => ⟨v9, h.1⟩ : ∃ v : Int32, r = some (Value.int v))
      refine z_pop X d_lw_2124 rfl ?_
      refine z_aload_n X d_lw_2125 rfl 2 rfl ?_
      refine z_aload_n X d_lw_2126 rfl 0 rfl ?_
      refine z_iload X d_lw_2127 4 rfl ?_
      refine z_iconst X d_lw_2129 (v := 1) (by decide) ?_
      refine z_iadd X d_lw_2130 ?_
      refine z_sld X hX hbl hbA (lw_in hi0 hi1 (k := 1) (by decide) (by decide)) d_lw_2131 (v := xs (i + 1).toNatClampNeg) rfl ?_
      refine mx_callG (rm := { frames := 1, cells := 0, slots := 0, locals := 25 }) (m0 := C_X11_again_1.2.2.2.2.1) (Ψ := (fun r w1 => r = some (.int 1) ∧ CQ G w1 6 16 (fun m => kq (154 * 0 + 2 + m)) ∧ CQ G w1 18 4 (fun m => kq (154 * 0 + 18 + 2 * m)) ∧ CQ G w1 19 4 (fun m => kq (154 * 0 + 19 + 2 * m)))) (wa := wx') (rest := []) (As := [.int (xs (i + 1).toNatClampNeg)]) X k_L_223 (fun ad hW => ac_gqm0 l G hW ha b2 kh3 kh4 x3 t2 t3 (by rw [ya]; omega)) ⟨rfl, rfl⟩ hy d_lw_2132 ⟨by decide, by decide⟩ ⟨hc, hs⟩ rfl rfl (Nat.le_of_ble_eq_true rfl) rfl (fun r wm' hz2 hy' hfm => ?_)
      obtain ⟨v2, rfl⟩ := (⟨_, hz2.1⟩ : ∃ v : Int32, r = some (Value.int v))
      obtain ⟨ev0, hM'⟩ := (⟨trivial, RKh.back (i := 0) (kz 0 (by decide)) hfx (by decide) y1 (by omega) y2 y3 a2 ra hz.2 hz2.2⟩ : True ∧ RelH G wx' wm' ∧ RelTh G wx' wm')
      have hR' : RelQ G wx' wm' := RelQ.of (hR.m.keep hfx hfm (by decide)) (hR.a.keep hfx hfm (by decide)) (hR.d.keep hfx hfm (by decide)) (hR.c.keep hfx hfm (by decide)) (hR.x.keep hfx hfm (by decide)) (hR.b.keep hfx hfm (by decide)) (hM'.1) (hM'.2) (hR.k.keep hfx hfm (by decide))
      refine z_pop X d_lw_2135 rfl ?_
      refine z_goto X d_lw_2136 (tgt := 2192) (by decide) ?_
      exact hK wx' wm' hx' hl' hy' hR'
    · skip
      rw [List.append_assoc]
      refine cx_callP (rest := []) (As := [.int (xs (i + 1).toNatClampNeg)]) (μ := muF x [.int (xs (i + 1).toNatClampNeg)] [.int (fl_)]) X k_L_220 (ac_k_X10_again_1 l G) (by decide) hx (fun ad w0 he hag => pre_F (C := C_k_X10_again_1) (ts := [(0, 0, 0)]) (As := [.int (xs (i + 1).toNatClampNeg)]) (t0 := (0, 0, 0)) rfl rfl (Nat.le_of_ble_eq_true rfl) ⟨fun _ => vty_i (by omega) (by omega), trivial⟩ (fun _ => vty_i (by omega) (by omega)) (fun _ h => absurd h List.not_mem_nil) ad w0 he ((hag 46 0 (by decide)).trans y1)) rfl d_lw_2121 ⟨by decide, by decide⟩ ⟨hc, hs⟩ rfl rfl (by decide) rfl (fun ad r wx' hz hx' hl' => ?_)
      rw [← List.append_assoc]
      have hfx := pz_fx hz
      obtain ⟨v, ν, rfl, v0, v1, e50, eA, eF, hF, hL⟩ := pz_a hz rfl rfl rfl
      refine z_pop X d_lw_2124 rfl ?_
      refine z_aload_n X d_lw_2125 rfl 2 rfl ?_
      refine z_aload_n X d_lw_2126 rfl 0 rfl ?_
      refine z_iload X d_lw_2127 4 rfl ?_
      refine z_iconst X d_lw_2129 (v := 1) (by decide) ?_
      refine z_iadd X d_lw_2130 ?_
      refine z_sld X hX hbl hbA (lw_in hi0 hi1 (k := 1) (by decide) (by decide)) d_lw_2131 (v := xs (i + 1).toNatClampNeg) rfl ?_
      refine mx_callG (rm := { frames := 1, cells := 0, slots := 0, locals := 25 }) (m0 := C_X11_again_1.2.2.2.2.1) (Ψ := (fun r w1 => r = some (.int 0) ∧ CQ G w1 6 16 (hg) ∧ CQ G w1 18 4 (tX9) ∧ CQ G w1 19 4 (tY9))) (wa := wx') (rest := []) (As := [.int (xs (i + 1).toNatClampNeg)]) X k_L_223 (fun ad hW => ac_nqm0 l G hW ha b2 kh3 kh4 x3 t2 t3 (by rw [ya]; omega)) ⟨rfl, rfl⟩ hy d_lw_2132 ⟨by decide, by decide⟩ ⟨hc, hs⟩ rfl rfl (Nat.le_of_ble_eq_true rfl) rfl (fun r wm' hz2 hy' hfm => ?_)
      obtain ⟨v2, rfl⟩ := (⟨_, hz2.1⟩ : ∃ v : Int32, r = some (Value.int v))
      have hR' : RelQ G wx' wm' := RelQ.of (hR.m.keep hfx hfm (by decide)) (hR.a.keep hfx hfm (by decide)) (hR.d.keep hfx hfm (by decide)) (hR.c.keep hfx hfm (by decide)) (hR.x.keep hfx hfm (by decide)) (hR.b.keep hfx hfm (by decide)) (RelH.same hR.h hfx (by decide) x3 hz2.2.1) (RelTh.same hR.t hfx (by decide) t2 t3 hz2.2.2.1 hz2.2.2.2) (hR.k.keep hfx hfm (by decide))
      refine z_pop X d_lw_2135 rfl ?_
      refine z_goto X d_lw_2136 (tgt := 2192) (by decide) ?_
      exact hK wx' wm' hx' hl' hy' hR'
  · skip
    have hv : xs (i + 1).toNatClampNeg = 1 := Int32.toInt_inj.mp (by have z : (1 : Int32).toInt = 1 := (by decide); omega)
    obtain ⟨fl_, qk_, tk_, y1, y2, y3, y4, y5, y6, y7⟩ := id (kz 1 (by decide))
    have ya : bq (xs (i + 1).toNatClampNeg).toNatClampNeg = fl_ := by rw [show (xs (i + 1).toNatClampNeg).toNatClampNeg = 1 from congrArg Int.toNat ha]; exact y4
    rcases (by omega : fl_.toInt = 1 ∨ fl_.toInt = 0) with hf | hf
    · skip
      rw [List.append_assoc]
      refine cx_callG (rm := { frames := 3, cells := 0, slots := 0, locals := 68 }) (m0 := C_k_X10_again_2.2.2.2.2.1) (Ψ := (fun r w1 => (∃ v : Int32, r = some (.int v) ∧ v = 1) ∧ CQ G w1 10 16 qk_ ∧ CQ G w1 105 8 tk_)) (rest := []) (As := [.int (xs (i + 1).toNatClampNeg)]) X k_L_220 (fun ad w0 hW hag => (by rw [hv]; exact ac_gqx1 l G hW ((fget_eq (hag 65 0 (by decide))).trans y1) (by omega) ((hag 66 0 (by decide)).trans y2) ((hag 67 0 (by decide)).trans y3))) ⟨rfl, rfl⟩ (by decide) (fun r w1 wc hl h => ⟨h.1, h.2.1.app (by omega), h.2.2.app (by omega)⟩) hx d_lw_2121 ⟨by decide, by decide⟩ ⟨hc, hs⟩ rfl rfl (by decide) rfl (fun r wx' hz hx' hl' hfx => ?_)
      rw [← List.append_assoc]
      obtain ⟨v, rfl⟩ := (hz.1.elim fun v9 h => ⟨v9, h.1⟩ : ∃ v : Int32, r = some (Value.int v))
      refine z_pop X d_lw_2124 rfl ?_
      refine z_aload_n X d_lw_2125 rfl 2 rfl ?_
      refine z_aload_n X d_lw_2126 rfl 0 rfl ?_
      refine z_iload X d_lw_2127 4 rfl ?_
      refine z_iconst X d_lw_2129 (v := 1) (by decide) ?_
      refine z_iadd X d_lw_2130 ?_
      refine z_sld X hX hbl hbA (lw_in hi0 hi1 (k := 1) (by decide) (by decide)) d_lw_2131 (v := xs (i + 1).toNatClampNeg) rfl ?_
      refine mx_callG (rm := { frames := 1, cells := 0, slots := 0, locals := 25 }) (m0 := C_X11_again_2.2.2.2.2.1) (Ψ := (fun r w1 => r = some (.int 1) ∧ CQ G w1 6 16 (fun m => kq (154 * 1 + 2 + m)) ∧ CQ G w1 18 4 (fun m => kq (154 * 1 + 18 + 2 * m)) ∧ CQ G w1 19 4 (fun m => kq (154 * 1 + 19 + 2 * m)))) (wa := wx') (rest := []) (As := [.int (xs (i + 1).toNatClampNeg)]) X k_L_223 (fun ad hW => ac_gqm1 l G hW ha b2 kh3 kh4 x3 t2 t3 (by rw [ya]; omega)) ⟨rfl, rfl⟩ hy d_lw_2132 ⟨by decide, by decide⟩ ⟨hc, hs⟩ rfl rfl (Nat.le_of_ble_eq_true rfl) rfl (fun r wm' hz2 hy' hfm => ?_)
      obtain ⟨v2, rfl⟩ := (⟨_, hz2.1⟩ : ∃ v : Int32, r = some (Value.int v))
      obtain ⟨ev0, hM'⟩ := (⟨trivial, RKh.back (i := 1) (kz 1 (by decide)) hfx (by decide) y1 (by omega) y2 y3 a2 ra hz.2 hz2.2⟩ : True ∧ RelH G wx' wm' ∧ RelTh G wx' wm')
      have hR' : RelQ G wx' wm' := RelQ.of (hR.m.keep hfx hfm (by decide)) (hR.a.keep hfx hfm (by decide)) (hR.d.keep hfx hfm (by decide)) (hR.c.keep hfx hfm (by decide)) (hR.x.keep hfx hfm (by decide)) (hR.b.keep hfx hfm (by decide)) (hM'.1) (hM'.2) (hR.k.keep hfx hfm (by decide))
      refine z_pop X d_lw_2135 rfl ?_
      refine z_goto X d_lw_2136 (tgt := 2192) (by decide) ?_
      exact hK wx' wm' hx' hl' hy' hR'
    · skip
      rw [List.append_assoc]
      refine cx_callP (rest := []) (As := [.int (xs (i + 1).toNatClampNeg)]) (μ := muF x [.int (xs (i + 1).toNatClampNeg)] [.int (fl_)]) X k_L_220 (ac_k_X10_again_3 l G) (by decide) hx (fun ad w0 he hag => pre_F (C := C_k_X10_again_3) (ts := [(0, 1, 1)]) (As := [.int (xs (i + 1).toNatClampNeg)]) (t0 := (0, 0, 0)) rfl rfl (Nat.le_of_ble_eq_true rfl) ⟨fun _ => vty_i (by omega) (by omega), trivial⟩ (fun _ => vty_i (by omega) (by omega)) (fun _ h => absurd h List.not_mem_nil) ad w0 he ((hag 65 0 (by decide)).trans y1)) rfl d_lw_2121 ⟨by decide, by decide⟩ ⟨hc, hs⟩ rfl rfl (by decide) rfl (fun ad r wx' hz hx' hl' => ?_)
      rw [← List.append_assoc]
      have hfx := pz_fx hz
      obtain ⟨v, ν, rfl, v0, v1, e50, eA, eF, hF, hL⟩ := pz_a hz rfl rfl rfl
      refine z_pop X d_lw_2124 rfl ?_
      refine z_aload_n X d_lw_2125 rfl 2 rfl ?_
      refine z_aload_n X d_lw_2126 rfl 0 rfl ?_
      refine z_iload X d_lw_2127 4 rfl ?_
      refine z_iconst X d_lw_2129 (v := 1) (by decide) ?_
      refine z_iadd X d_lw_2130 ?_
      refine z_sld X hX hbl hbA (lw_in hi0 hi1 (k := 1) (by decide) (by decide)) d_lw_2131 (v := xs (i + 1).toNatClampNeg) rfl ?_
      refine mx_callG (rm := { frames := 1, cells := 0, slots := 0, locals := 25 }) (m0 := C_X11_again_2.2.2.2.2.1) (Ψ := (fun r w1 => r = some (.int 0) ∧ CQ G w1 6 16 (hg) ∧ CQ G w1 18 4 (tX9) ∧ CQ G w1 19 4 (tY9))) (wa := wx') (rest := []) (As := [.int (xs (i + 1).toNatClampNeg)]) X k_L_223 (fun ad hW => ac_nqm1 l G hW ha b2 kh3 kh4 x3 t2 t3 (by rw [ya]; omega)) ⟨rfl, rfl⟩ hy d_lw_2132 ⟨by decide, by decide⟩ ⟨hc, hs⟩ rfl rfl (Nat.le_of_ble_eq_true rfl) rfl (fun r wm' hz2 hy' hfm => ?_)
      obtain ⟨v2, rfl⟩ := (⟨_, hz2.1⟩ : ∃ v : Int32, r = some (Value.int v))
      have hR' : RelQ G wx' wm' := RelQ.of (hR.m.keep hfx hfm (by decide)) (hR.a.keep hfx hfm (by decide)) (hR.d.keep hfx hfm (by decide)) (hR.c.keep hfx hfm (by decide)) (hR.x.keep hfx hfm (by decide)) (hR.b.keep hfx hfm (by decide)) (RelH.same hR.h hfx (by decide) x3 hz2.2.1) (RelTh.same hR.t hfx (by decide) t2 t3 hz2.2.2.1 hz2.2.2.2) (hR.k.keep hfx hfm (by decide))
      refine z_pop X d_lw_2135 rfl ?_
      refine z_goto X d_lw_2136 (tgt := 2192) (by decide) ?_
      exact hK wx' wm' hx' hl' hy' hR'
  · skip
    have hv : xs (i + 1).toNatClampNeg = 2 := Int32.toInt_inj.mp (by have z : (2 : Int32).toInt = 2 := (by decide); omega)
    obtain ⟨fl_, qk_, tk_, y1, y2, y3, y4, y5, y6, y7⟩ := id (kz 2 (by decide))
    have ya : bq (xs (i + 1).toNatClampNeg).toNatClampNeg = fl_ := by rw [show (xs (i + 1).toNatClampNeg).toNatClampNeg = 2 from congrArg Int.toNat ha]; exact y4
    rcases (by omega : fl_.toInt = 1 ∨ fl_.toInt = 0) with hf | hf
    · skip
      rw [List.append_assoc]
      refine cx_callG (rm := { frames := 3, cells := 0, slots := 0, locals := 68 }) (m0 := C_k_X10_again_4.2.2.2.2.1) (Ψ := (fun r w1 => (∃ v : Int32, r = some (.int v) ∧ v = 1) ∧ CQ G w1 10 16 qk_ ∧ CQ G w1 105 8 tk_)) (rest := []) (As := [.int (xs (i + 1).toNatClampNeg)]) X k_L_220 (fun ad w0 hW hag => (by rw [hv]; exact ac_gqx2 l G hW ((fget_eq (hag 84 0 (by decide))).trans y1) (by omega) ((hag 85 0 (by decide)).trans y2) ((hag 86 0 (by decide)).trans y3))) ⟨rfl, rfl⟩ (by decide) (fun r w1 wc hl h => ⟨h.1, h.2.1.app (by omega), h.2.2.app (by omega)⟩) hx d_lw_2121 ⟨by decide, by decide⟩ ⟨hc, hs⟩ rfl rfl (by decide) rfl (fun r wx' hz hx' hl' hfx => ?_)
      rw [← List.append_assoc]
      obtain ⟨v, rfl⟩ := (hz.1.elim fun v9 h => ⟨v9, h.1⟩ : ∃ v : Int32, r = some (Value.int v))
      refine z_pop X d_lw_2124 rfl ?_
      refine z_aload_n X d_lw_2125 rfl 2 rfl ?_
      refine z_aload_n X d_lw_2126 rfl 0 rfl ?_
      refine z_iload X d_lw_2127 4 rfl ?_
      refine z_iconst X d_lw_2129 (v := 1) (by decide) ?_
      refine z_iadd X d_lw_2130 ?_
      refine z_sld X hX hbl hbA (lw_in hi0 hi1 (k := 1) (by decide) (by decide)) d_lw_2131 (v := xs (i + 1).toNatClampNeg) rfl ?_
      refine mx_callG (rm := { frames := 1, cells := 0, slots := 0, locals := 25 }) (m0 := C_X11_again_3.2.2.2.2.1) (Ψ := (fun r w1 => r = some (.int 1) ∧ CQ G w1 6 16 (fun m => kq (154 * 2 + 2 + m)) ∧ CQ G w1 18 4 (fun m => kq (154 * 2 + 18 + 2 * m)) ∧ CQ G w1 19 4 (fun m => kq (154 * 2 + 19 + 2 * m)))) (wa := wx') (rest := []) (As := [.int (xs (i + 1).toNatClampNeg)]) X k_L_223 (fun ad hW => ac_gqm2 l G hW ha b2 kh3 kh4 x3 t2 t3 (by rw [ya]; omega)) ⟨rfl, rfl⟩ hy d_lw_2132 ⟨by decide, by decide⟩ ⟨hc, hs⟩ rfl rfl (Nat.le_of_ble_eq_true rfl) rfl (fun r wm' hz2 hy' hfm => ?_)
      obtain ⟨v2, rfl⟩ := (⟨_, hz2.1⟩ : ∃ v : Int32, r = some (Value.int v))
      obtain ⟨ev0, hM'⟩ := (⟨trivial, RKh.back (i := 2) (kz 2 (by decide)) hfx (by decide) y1 (by omega) y2 y3 a2 ra hz.2 hz2.2⟩ : True ∧ RelH G wx' wm' ∧ RelTh G wx' wm')
      have hR' : RelQ G wx' wm' := RelQ.of (hR.m.keep hfx hfm (by decide)) (hR.a.keep hfx hfm (by decide)) (hR.d.keep hfx hfm (by decide)) (hR.c.keep hfx hfm (by decide)) (hR.x.keep hfx hfm (by decide)) (hR.b.keep hfx hfm (by decide)) (hM'.1) (hM'.2) (hR.k.keep hfx hfm (by decide))
      refine z_pop X d_lw_2135 rfl ?_
      refine z_goto X d_lw_2136 (tgt := 2192) (by decide) ?_
      exact hK wx' wm' hx' hl' hy' hR'
    · skip
      rw [List.append_assoc]
      refine cx_callP (rest := []) (As := [.int (xs (i + 1).toNatClampNeg)]) (μ := muF x [.int (xs (i + 1).toNatClampNeg)] [.int (fl_)]) X k_L_220 (ac_k_X10_again_5 l G) (by decide) hx (fun ad w0 he hag => pre_F (C := C_k_X10_again_5) (ts := [(0, 2, 2)]) (As := [.int (xs (i + 1).toNatClampNeg)]) (t0 := (0, 0, 0)) rfl rfl (Nat.le_of_ble_eq_true rfl) ⟨fun _ => vty_i (by omega) (by omega), trivial⟩ (fun _ => vty_i (by omega) (by omega)) (fun _ h => absurd h List.not_mem_nil) ad w0 he ((hag 84 0 (by decide)).trans y1)) rfl d_lw_2121 ⟨by decide, by decide⟩ ⟨hc, hs⟩ rfl rfl (by decide) rfl (fun ad r wx' hz hx' hl' => ?_)
      rw [← List.append_assoc]
      have hfx := pz_fx hz
      obtain ⟨v, ν, rfl, v0, v1, e50, eA, eF, hF, hL⟩ := pz_a hz rfl rfl rfl
      refine z_pop X d_lw_2124 rfl ?_
      refine z_aload_n X d_lw_2125 rfl 2 rfl ?_
      refine z_aload_n X d_lw_2126 rfl 0 rfl ?_
      refine z_iload X d_lw_2127 4 rfl ?_
      refine z_iconst X d_lw_2129 (v := 1) (by decide) ?_
      refine z_iadd X d_lw_2130 ?_
      refine z_sld X hX hbl hbA (lw_in hi0 hi1 (k := 1) (by decide) (by decide)) d_lw_2131 (v := xs (i + 1).toNatClampNeg) rfl ?_
      refine mx_callG (rm := { frames := 1, cells := 0, slots := 0, locals := 25 }) (m0 := C_X11_again_3.2.2.2.2.1) (Ψ := (fun r w1 => r = some (.int 0) ∧ CQ G w1 6 16 (hg) ∧ CQ G w1 18 4 (tX9) ∧ CQ G w1 19 4 (tY9))) (wa := wx') (rest := []) (As := [.int (xs (i + 1).toNatClampNeg)]) X k_L_223 (fun ad hW => ac_nqm2 l G hW ha b2 kh3 kh4 x3 t2 t3 (by rw [ya]; omega)) ⟨rfl, rfl⟩ hy d_lw_2132 ⟨by decide, by decide⟩ ⟨hc, hs⟩ rfl rfl (Nat.le_of_ble_eq_true rfl) rfl (fun r wm' hz2 hy' hfm => ?_)
      obtain ⟨v2, rfl⟩ := (⟨_, hz2.1⟩ : ∃ v : Int32, r = some (Value.int v))
      have hR' : RelQ G wx' wm' := RelQ.of (hR.m.keep hfx hfm (by decide)) (hR.a.keep hfx hfm (by decide)) (hR.d.keep hfx hfm (by decide)) (hR.c.keep hfx hfm (by decide)) (hR.x.keep hfx hfm (by decide)) (hR.b.keep hfx hfm (by decide)) (RelH.same hR.h hfx (by decide) x3 hz2.2.1) (RelTh.same hR.t hfx (by decide) t2 t3 hz2.2.2.1 hz2.2.2.2) (hR.k.keep hfx hfm (by decide))
      refine z_pop X d_lw_2135 rfl ?_
      refine z_goto X d_lw_2136 (tgt := 2192) (by decide) ?_
      exact hK wx' wm' hx' hl' hy' hR'
theorem lc_46 (X : ZC p s m #[Value.ref b] meth c code 8 RL G (fun q : Nat => s.heap.size ≤ q) ret nm) (hX : va_X b L xs s s.heap) (hbl : b < s.heap.size) (hbA : ¬ s.heap.size ≤ b) (hi0 : 0 ≤ i.toInt) (hi1 : i.toInt + 10 ≤ (L : Int) ∧ L ≤ 5120) (hx : CWx G x wx) (hy : MWx G y wm) (hR : RelQ G wx wm) (hc : kc ≤ room_1.cells) (hs : ks ≤ room_1.slots) (hK : ∀ wx' wm', CWx G x wx' → wx'.length = wx.length → MWx G y wm' → RelQ G wx' wm' → Z p l e room_1 s m #[Value.ref b] below meth c 8 G (fun q : Nat => s.heap.size ≤ q) (lw_Z below #[Value.ref b] s) 2192 (lv5 b x y o i) [] (wx' ++ wm' ++ [(o, aJ G 1 f)]) kc ks) : Z p l e room_1 s m #[Value.ref b] below meth c 8 G (fun q : Nat => s.heap.size ≤ q) (lw_Z below #[Value.ref b] s) 2139 (lv5 b x y o i) [] (wx ++ wm ++ [(o, aJ G 1 f)]) kc ks := by
  refine z_aload_n X d_lw_2139 rfl 1 rfl ?_
  refine z_aload_n X d_lw_2140 rfl 0 rfl ?_
  refine z_iload X d_lw_2141 4 rfl ?_
  refine z_iconst X d_lw_2143 (v := 1) (by decide) ?_
  refine z_iadd X d_lw_2144 ?_
  refine z_sld X hX hbl hbA (lw_in hi0 hi1 (k := 1) (by decide) (by decide)) d_lw_2145 (v := xs (i + 1).toNatClampNeg) rfl ?_
  rw [List.append_assoc]
  refine cx_callF (k := 0) (rest := []) (As := [.int (xs (i + 1).toNatClampNeg)]) (μ := (fun k => ((Value.ref x :: [.int (xs (i + 1).toNatClampNeg)])[k]?).getD .null)) X k_L_224 (ac_X10_count_0 l G) (by decide) (by decide) (by decide) hx (fun ad w0 he => pre_mu (C := C_X10_count_0) (ts := [tI0]) (As := [.int (xs (i + 1).toNatClampNeg)]) rfl rfl rfl rfl ⟨fun _ => vty_i0 _, trivial⟩ ad w0 he) rfl d_lw_2146 ⟨by decide, by decide⟩ ⟨hc, hs⟩ rfl rfl (by decide) rfl (fun r wx' hr hx' hl' hfx => ?_)
  rw [← List.append_assoc]
  rcases hr with ⟨h, -⟩ | ⟨-, v, rfl⟩ | ⟨h, -⟩
  all_goals first | (exact absurd h (by decide)) | skip
  refine z_pop X d_lw_2149 rfl ?_
  refine z_aload_n X d_lw_2150 rfl 2 rfl ?_
  refine z_aload_n X d_lw_2151 rfl 0 rfl ?_
  refine z_iload X d_lw_2152 4 rfl ?_
  refine z_iconst X d_lw_2154 (v := 1) (by decide) ?_
  refine z_iadd X d_lw_2155 ?_
  refine z_sld X hX hbl hbA (lw_in hi0 hi1 (k := 1) (by decide) (by decide)) d_lw_2156 (v := xs (i + 1).toNatClampNeg) rfl ?_
  refine mx_callF (k := 0) (wa := wx') (rest := []) (As := [.int (xs (i + 1).toNatClampNeg)]) (μ := (fun k => ((Value.ref y :: [.int (xs (i + 1).toNatClampNeg)])[k]?).getD .null)) X k_L_227 (ac_X11_count_0 l G) (by decide) (by decide) hy (fun ad w0 he => pre_mu (C := C_X11_count_0) (ts := [tI0]) (As := [.int (xs (i + 1).toNatClampNeg)]) rfl rfl rfl rfl ⟨fun _ => vty_i0 _, trivial⟩ ad w0 he) rfl d_lw_2157 ⟨by decide, by decide⟩ ⟨hc, hs⟩ rfl rfl (Nat.le_of_ble_eq_true rfl) rfl (fun r wm' hr hy' hfm => ?_)
  rcases hr with ⟨h, -⟩ | ⟨-, v, rfl⟩ | ⟨h, -⟩
  all_goals first | (exact absurd h (by decide)) | skip
  refine z_pop X d_lw_2160 rfl ?_
  refine z_goto X d_lw_2161 (tgt := 2192) (by decide) ?_
  exact hK wx' wm' hx' hl' hy' (RelQ.of (hR.m.keep hfx hfm (by decide)) (hR.a.keep hfx hfm (by decide)) (hR.d.keep hfx hfm (by decide)) (hR.c.keep hfx hfm (by decide)) (hR.x.keep hfx hfm (by decide)) (hR.b.keep hfx hfm (by decide)) (hR.h.keep hfx hfm (by decide)) (hR.t.keep hfx hfm (by decide)) (hR.k.keep hfx hfm (by decide)))
theorem lc_47 (X : ZC p s m #[Value.ref b] meth c code 8 RL G (fun q : Nat => s.heap.size ≤ q) ret nm) (hX : va_X b L xs s s.heap) (hbl : b < s.heap.size) (hbA : ¬ s.heap.size ≤ b) (hi0 : 0 ≤ i.toInt) (hi1 : i.toInt + 10 ≤ (L : Int) ∧ L ≤ 5120) (hx : CWx G x wx) (hy : MWx G y wm) (hR : RelQ G wx wm) (hE : EXs (fun q : Nat => s.heap.size ≤ q) s s.heap) (hst : l.stackTraces = false) (hc : kc + 1 ≤ room_1.cells) (hs : ks + 6 ≤ room_1.slots) (hK : ∀ wx' wm' f', CWx G x wx' → wx'.length = wx.length → MWx G y wm' → RelQ G wx' wm' → Z p l e room_1 s m #[Value.ref b] below meth c 8 G (fun q : Nat => s.heap.size ≤ q) (lw_Z below #[Value.ref b] s) 2192 (lv5 b x y o i) [] (wx' ++ wm' ++ [(o, aJ G 1 f')]) (kc + 1) (ks + 6)) : Z p l e room_1 s m #[Value.ref b] below meth c 8 G (fun q : Nat => s.heap.size ≤ q) (lw_Z below #[Value.ref b] s) 2164 (lv5 b x y o i) [] (wx ++ wm ++ [(o, aJ G 1 f)]) kc ks := by
  refine z_aload_n X d_lw_2164 rfl 1 rfl ?_
  refine z_aload_n X d_lw_2165 rfl 0 rfl ?_
  refine z_iload X d_lw_2166 4 rfl ?_
  refine z_iconst X d_lw_2168 (v := 1) (by decide) ?_
  refine z_iadd X d_lw_2169 ?_
  refine z_sld X hX hbl hbA (lw_in hi0 hi1 (k := 1) (by decide) (by decide)) d_lw_2170 (v := xs (i + 1).toNatClampNeg) rfl ?_
  refine z_aload_n X d_lw_2171 rfl 3 rfl ?_
  refine sx_callF (x := x) (oa := o) (rm := { frames := 7, cells := 1, slots := 6, locals := 103 }) (rest := []) (As := [.ref (x), .int (xs (i + 1).toNatClampNeg), .ref (o)]) X k_L_228 hE (fun ad w0 h1 h2 h3 => by rw [← h3]; exact cl_row l hst G h1 h2 _ o f) hx d_lw_2172 ⟨by decide, by decide⟩ ⟨hc, hs⟩ rfl rfl (by decide) rfl (fun v wx' f' hx' hl' hfx => ?_)
  refine z_istore X d_lw_2175 (by decide) (lv' := [(5, .int (v)), (0, .ref (b)), (1, .ref (x)), (2, .ref (y)), (3, .ref (o)), (4, .int (i))]) rfl ?_
  refine z_aload_n X d_lw_2177 rfl 3 rfl ?_
  refine z_aload_n X d_lw_2178 rfl 1 rfl ?_
  refine z_iload X d_lw_2179 5 rfl ?_
  refine z_iconst X d_lw_2181 (v := 1) (by decide) ?_
  refine z_iadd X d_lw_2182 ?_
  refine z_sld X hX hbl hbA (lw_in hi0 hi1 (k := 1) (by decide) (by decide)) d_lw_2183 (v := xs (i + 1).toNatClampNeg) rfl ?_
  refine mx_callF (k := 1) (wa := wx') (rest := []) (As := [.int (xs (i + 1).toNatClampNeg)]) (μ := (fun k => ((Value.ref y :: [.int (xs (i + 1).toNatClampNeg)])[k]?).getD .null)) X k_L_231 (ac_X11_row_0 l G) (by decide) (by decide) hy (fun ad w0 he => pre_mu (C := C_X11_row_0) (ts := [tI0]) (As := [.int (xs (i + 1).toNatClampNeg)]) rfl rfl rfl rfl ⟨fun _ => vty_i0 _, trivial⟩ ad w0 he) rfl d_lw_2184 ⟨by decide, by decide⟩ ⟨hc, hs⟩ rfl rfl (Nat.le_of_ble_eq_true rfl) rfl (fun r wm' hr hy' hfm => ?_)
  rcases hr with ⟨h, -⟩ | ⟨h, -⟩ | ⟨-, v2, rfl⟩
  all_goals first | (exact absurd h (by decide)) | skip
  refine z_lstore X d_lw_2187 (by decide) (lv' := [(6, .long (v2)), (5, .int (v)), (0, .ref (b)), (1, .ref (x)), (2, .ref (y)), (3, .ref (o)), (4, .int (i))]) rfl ?_
  refine z_goto X d_lw_2189 (tgt := 2192) (by decide) ?_
  exact Z.mono (fun q hq => by simp only [List.mem_cons, List.not_mem_nil, or_false] at hq ⊢; rcases hq with h | h | h | h | h <;> simp [h]) (hK wx' wm' f' hx' hl' hy' (RelQ.of (hR.m.keep hfx hfm (by decide)) (hR.a.keep hfx hfm (by decide)) (hR.d.keep hfx hfm (by decide)) (hR.c.keep hfx hfm (by decide)) (hR.x.keep hfx hfm (by decide)) (hR.b.keep hfx hfm (by decide)) (hR.h.keep hfx hfm (by decide)) (hR.t.keep hfx hfm (by decide)) (hR.k.keep hfx hfm (by decide))))
end LWC
end
