/-! the law: its cases, the relation kept -/
section LWC
variable {p : Program} {l : Launch} {e : Env} {s : State} {m : MethodId} {below : List Frame} {meth : Method} {c : Code} {G : KG} {nm : String} {b L x y o : Nat} {xs : Nat → Int32} {i : Int32} {f : Nat → Int64} {wx wm : va_W} {kc ks : Nat}
theorem z_pop2 {args : Array Value} {R : Room} {nL : Nat} {A : Nat → Prop} {Q : State → Prop} {cc : ByteArray} {own : String} {rt : Option FieldType} {pc : Nat} {rest : List Value} {ws : va_W} {lv : List (Nat × Value)} {va : Value} (X : ZC p s m args meth c cc nL own G A rt nm) (hdg : decode cc pc = .ok (.pop2, 1)) (hva : va.category = 2) (kz : Z p l e R s m args below meth c nL G A Q (pc + 1) lv rest ws kc ks) : Z p l e R s m args below meth c nL G A Q pc lv (va :: rest) ws kc ks := fun H locs ls hP hD hS hl => lv_pop2_2 X.1 X.2.1 hdg hva (kz H locs ls hP hD hS hl)
abbrev lv5 (b x y o : Nat) (i : Int32) : List (Nat × Value) := [(0, .ref b), (1, .ref x), (2, .ref y), (3, .ref o), (4, .int i)]
theorem lc_0 (X : ZC p s m #[Value.ref b] meth c code 8 RL G (fun q : Nat => s.heap.size ≤ q) ret nm) (hX : va_X b L xs s s.heap) (hbl : b < s.heap.size) (hbA : ¬ s.heap.size ≤ b) (hi0 : 0 ≤ i.toInt) (hi1 : i.toInt + 10 ≤ (L : Int) ∧ L ≤ 5120) (hx : CWx G x wx) (hy : MWx G y wm) (hR : RelQ G wx wm) (hc : kc ≤ room_1.cells) (hs : ks ≤ room_1.slots) (hK : ∀ wx' wm', CWx G x wx' → wx'.length = wx.length → MWx G y wm' → RelQ G wx' wm' → Z p l e room_1 s m #[Value.ref b] below meth c 8 G (fun q : Nat => s.heap.size ≤ q) (lw_Z below #[Value.ref b] s) 2192 (lv5 b x y o i) [] (wx' ++ wm' ++ [(o, aJ G 1 f)]) kc ks) : Z p l e room_1 s m #[Value.ref b] below meth c 8 G (fun q : Nat => s.heap.size ≤ q) (lw_Z below #[Value.ref b] s) 248 (lv5 b x y o i) [] (wx ++ wm ++ [(o, aJ G 1 f)]) kc ks := by
  obtain ⟨n, h9, s9, c9, f9, g9, ⟨n0, n1⟩, rc9, e9, ⟨hn1, hn2⟩, ⟨a2, b2⟩, ⟨a3, b3⟩, ⟨a4, b4⟩, a5, b5⟩ := id hR.m
  refine z_aload_n X d_lw_248 rfl 1 rfl ?_
  refine z_aload_n X d_lw_249 rfl 0 rfl ?_
  refine z_iload X d_lw_250 4 rfl ?_
  refine z_iconst X d_lw_252 (v := 1) (by decide) ?_
  refine z_iadd X d_lw_253 ?_
  refine z_sld X hX hbl hbA (lw_in hi0 hi1 (k := 1) (by decide) (by decide)) d_lw_254 (v := xs (i + 1).toNatClampNeg) rfl ?_
  rcases (by omega : n.toInt ≤ 76 ∨ 77 ≤ n.toInt) with hq | hq
  · skip
    rw [List.append_assoc]
    refine cx_callG (rm := { frames := 1, cells := 0, slots := 0, locals := 22 }) (m0 := C_v_X10_sign_0.2.2.2.2.1) (Ψ := SgnE G 3 1 4 n f9 (xs (i + 1).toNatClampNeg)) (rest := []) (As := [.int (xs (i + 1).toNatClampNeg)]) X k_L_23 (fun ad w0 hW hag => ac_sgx l G hW ((fget_eq (hag 3 1 (by decide))).trans hn1) ((hag 4 0 (by decide)).trans a5) ⟨n0, hq⟩) ⟨rfl, rfl⟩ (by decide) (fun r w1 wc hl h => h.app ⟨by omega, by omega⟩) hx d_lw_255 ⟨by decide, by decide⟩ ⟨hc, hs⟩ rfl rfl (by decide) rfl (fun r wx' hz hx' hl' hfx => ?_)
    rw [← List.append_assoc]
    obtain ⟨v, rfl⟩ := hz.ret
    refine z_pop X d_lw_258 rfl ?_
    refine z_aload_n X d_lw_259 rfl 2 rfl ?_
    refine z_aload_n X d_lw_260 rfl 0 rfl ?_
    refine z_iload X d_lw_261 4 rfl ?_
    refine z_iconst X d_lw_263 (v := 1) (by decide) ?_
    refine z_iadd X d_lw_264 ?_
    refine z_sld X hX hbl hbA (lw_in hi0 hi1 (k := 1) (by decide) (by decide)) d_lw_265 (v := xs (i + 1).toNatClampNeg) rfl ?_
    refine mx_callG (rm := { frames := 0, cells := 0, slots := 0, locals := 0 }) (m0 := C_v_X11_sign_0.2.2.2.2.1) (Ψ := SgnE G 0 19 14 n g9 (xs (i + 1).toNatClampNeg)) (wa := wx') (rest := []) (As := [.int (xs (i + 1).toNatClampNeg)]) X k_L_27 (fun ad hW => ac_sgm l G hW hn2 b5 ⟨n0, hq⟩) ⟨rfl, rfl⟩ hy d_lw_266 ⟨by decide, by decide⟩ ⟨hc, hs⟩ rfl rfl (Nat.le_of_ble_eq_true rfl) rfl (fun r wm' hz2 hy' hfm => ?_)
    obtain ⟨v2, rfl⟩ := hz2.ret
    obtain ⟨ev0, hM'⟩ := RelM.sgn hR.m hfx hfm (by decide) ⟨n0, hq⟩ e9 hz hz2
    have hR' : RelQ G wx' wm' := RelQ.of (hM') (hR.a.keep hfx hfm (by decide)) (hR.d.keep hfx hfm (by decide)) (hR.c.keep hfx hfm (by decide)) (hR.x.keep hfx hfm (by decide)) (hR.b.keep hfx hfm (by decide)) (hR.h.keep hfx hfm (by decide)) (hR.t.keep hfx hfm (by decide)) (hR.k.keep hfx hfm (by decide))
    have ev : v.toInt = v2.toInt := congrArg Int32.toInt ev0
    refine z_pop X d_lw_269 rfl ?_
    refine z_goto X d_lw_270 (tgt := 2192) (by decide) ?_
    exact hK wx' wm' hx' hl' hy' hR'
  · skip
    rw [List.append_assoc]
    refine cx_callP (rest := []) (As := [.int (xs (i + 1).toNatClampNeg)]) (μ := muF x [.int (xs (i + 1).toNatClampNeg)] [.int n]) X k_L_23 (ac_v_X10_sign_1 l G) (by decide) hx (fun ad w0 he hag => pre_F (C := C_v_X10_sign_1) (ts := [tI0]) (As := [.int (xs (i + 1).toNatClampNeg)]) (t0 := (0, 77, 80)) rfl rfl (Nat.le_of_ble_eq_true rfl) ⟨fun _ => vty_i0 _, trivial⟩ (fun _ => vty_i (by omega) (by omega)) (fun q hq => by cases hq) ad w0 he ((hag 3 1 (by decide)).trans hn1)) rfl d_lw_255 ⟨by decide, by decide⟩ ⟨hc, hs⟩ rfl rfl (by decide) rfl (fun ad r wx' hz hx' hl' => ?_)
    rw [← List.append_assoc]
    have hfx := pz_fx hz
    obtain ⟨v, ν, rfl, v0, v1, e50, eA, eF, hF, hL⟩ := pz_a hz rfl rfl rfl
    refine z_pop X d_lw_258 rfl ?_
    refine z_aload_n X d_lw_259 rfl 2 rfl ?_
    refine z_aload_n X d_lw_260 rfl 0 rfl ?_
    refine z_iload X d_lw_261 4 rfl ?_
    refine z_iconst X d_lw_263 (v := 1) (by decide) ?_
    refine z_iadd X d_lw_264 ?_
    refine z_sld X hX hbl hbA (lw_in hi0 hi1 (k := 1) (by decide) (by decide)) d_lw_265 (v := xs (i + 1).toNatClampNeg) rfl ?_
    refine mx_callP (wa := wx') (rest := []) (As := [.int (xs (i + 1).toNatClampNeg)]) (μ := muF y [.int (xs (i + 1).toNatClampNeg)] [.int n]) X k_L_27 (ac_v_X11_sign_1 l G) hy (fun ad he => pre_F (C := C_v_X11_sign_1) (ts := [tI0]) (As := [.int (xs (i + 1).toNatClampNeg)]) (t0 := (0, 77, 80)) rfl rfl (Nat.le_of_ble_eq_true rfl) ⟨fun _ => vty_i0 _, trivial⟩ (fun _ => vty_i (by omega) (by omega)) (fun q hq => by cases hq) ad wm he hn2) rfl d_lw_266 ⟨by decide, by decide⟩ ⟨hc, hs⟩ rfl rfl (Nat.le_of_ble_eq_true rfl) rfl (fun ad2 r wm' hz2 hy' => ?_)
    have hfm := pz_fx hz2
    obtain ⟨v2, ν2, rfl, w0, w1, f50, fA, fF, hF2, hL2⟩ := pz_a hz2 rfl rfl rfl
    have m0 : ν 100 = .int n := eF 100 (by decide) (by decide)
    have m2 : ν2 100 = .int n := fF 100 (by decide) (by decide)
    have v0 : -1 ≤ v.toInt := v0
    have v1 : v.toInt ≤ -1 := v1
    have w0 : -1 ≤ v2.toInt := w0
    have w1 : v2.toInt ≤ -1 := w1
    have ev : v.toInt = v2.toInt := by omega
    have hR' : RelQ G wx' wm' := RelQ.of (hR.m.keep hfx hfm (by decide)) (hR.a.keep hfx hfm (by decide)) (hR.d.keep hfx hfm (by decide)) (hR.c.keep hfx hfm (by decide)) (hR.x.keep hfx hfm (by decide)) (hR.b.keep hfx hfm (by decide)) (hR.h.keep hfx hfm (by decide)) (hR.t.keep hfx hfm (by decide)) (hR.k.keep hfx hfm (by decide))
    refine z_pop X d_lw_269 rfl ?_
    refine z_goto X d_lw_270 (tgt := 2192) (by decide) ?_
    exact hK wx' wm' hx' hl' hy' hR'
theorem lc_1 (X : ZC p s m #[Value.ref b] meth c code 8 RL G (fun q : Nat => s.heap.size ≤ q) ret nm) (hX : va_X b L xs s s.heap) (hbl : b < s.heap.size) (hbA : ¬ s.heap.size ≤ b) (hi0 : 0 ≤ i.toInt) (hi1 : i.toInt + 10 ≤ (L : Int) ∧ L ≤ 5120) (hx : CWx G x wx) (hy : MWx G y wm) (hR : RelQ G wx wm) (hc : kc ≤ room_1.cells) (hs : ks ≤ room_1.slots) (hK : ∀ wx' wm', CWx G x wx' → wx'.length = wx.length → MWx G y wm' → RelQ G wx' wm' → Z p l e room_1 s m #[Value.ref b] below meth c 8 G (fun q : Nat => s.heap.size ≤ q) (lw_Z below #[Value.ref b] s) 2192 (lv5 b x y o i) [] (wx' ++ wm' ++ [(o, aJ G 1 f)]) kc ks) : Z p l e room_1 s m #[Value.ref b] below meth c 8 G (fun q : Nat => s.heap.size ≤ q) (lw_Z below #[Value.ref b] s) 273 (lv5 b x y o i) [] (wx ++ wm ++ [(o, aJ G 1 f)]) kc ks := by
  obtain ⟨n, h9, s9, c9, f9, g9, ⟨n0, n1⟩, rc9, e9, ⟨hn1, hn2⟩, ⟨a2, b2⟩, ⟨a3, b3⟩, ⟨a4, b4⟩, a5, b5⟩ := id hR.m
  refine z_aload_n X d_lw_273 rfl 1 rfl ?_
  refine z_aload_n X d_lw_274 rfl 0 rfl ?_
  refine z_iload X d_lw_275 4 rfl ?_
  refine z_iconst X d_lw_277 (v := 1) (by decide) ?_
  refine z_iadd X d_lw_278 ?_
  refine z_sld X hX hbl hbA (lw_in hi0 hi1 (k := 1) (by decide) (by decide)) d_lw_279 (v := xs (i + 1).toNatClampNeg) rfl ?_
  rcases (by omega : (xs (i + 1).toNatClampNeg).toInt ≤ -1 ∨ (0 ≤ (xs (i + 1).toNatClampNeg).toInt ∧ (xs (i + 1).toNatClampNeg).toInt ≤ n.toInt) ∨ n.toInt + 1 ≤ (xs (i + 1).toNatClampNeg).toInt) with hq | hq | hq
  · skip
    rw [List.append_assoc]
    refine cx_callP (rest := []) (As := [.int (xs (i + 1).toNatClampNeg)]) (μ := muF x [.int (xs (i + 1).toNatClampNeg)] [.int n]) X k_L_28 (ac_v_X10_end_0 l G) (by decide) hx (fun ad w0 he hag => pre_F (C := C_v_X10_end_0) (ts := [(0, -2147483648, -1)]) (As := [.int (xs (i + 1).toNatClampNeg)]) (t0 := (0, 0, 80)) rfl rfl (Nat.le_of_ble_eq_true rfl) ⟨fun _ => vty_i (i32_lo _) (by omega), trivial⟩ (fun _ => vty_i (by omega) (by omega)) (fun q hq => by cases hq) ad w0 he ((hag 3 1 (by decide)).trans hn1)) rfl d_lw_280 ⟨by decide, by decide⟩ ⟨hc, hs⟩ rfl rfl (by decide) rfl (fun ad r wx' hz hx' hl' => ?_)
    rw [← List.append_assoc]
    have hfx := pz_fx hz
    obtain ⟨v, ν, rfl, v0, v1, e50, eA, eF, hF, hL⟩ := pz_a hz rfl rfl rfl
    refine z_pop X d_lw_283 rfl ?_
    refine z_aload_n X d_lw_284 rfl 2 rfl ?_
    refine z_aload_n X d_lw_285 rfl 0 rfl ?_
    refine z_iload X d_lw_286 4 rfl ?_
    refine z_iconst X d_lw_288 (v := 1) (by decide) ?_
    refine z_iadd X d_lw_289 ?_
    refine z_sld X hX hbl hbA (lw_in hi0 hi1 (k := 1) (by decide) (by decide)) d_lw_290 (v := xs (i + 1).toNatClampNeg) rfl ?_
    refine mx_callP (wa := wx') (rest := []) (As := [.int (xs (i + 1).toNatClampNeg)]) (μ := muF y [.int (xs (i + 1).toNatClampNeg)] [.int n]) X k_L_32 (ac_v_X11_end_0 l G) hy (fun ad he => pre_F (C := C_v_X11_end_0) (ts := [(0, -2147483648, -1)]) (As := [.int (xs (i + 1).toNatClampNeg)]) (t0 := (0, 0, 80)) rfl rfl (Nat.le_of_ble_eq_true rfl) ⟨fun _ => vty_i (i32_lo _) (by omega), trivial⟩ (fun _ => vty_i (by omega) (by omega)) (fun q hq => by cases hq) ad wm he hn2) rfl d_lw_291 ⟨by decide, by decide⟩ ⟨hc, hs⟩ rfl rfl (Nat.le_of_ble_eq_true rfl) rfl (fun ad2 r wm' hz2 hy' => ?_)
    have hfm := pz_fx hz2
    obtain ⟨v2, ν2, rfl, w0, w1, f50, fA, fF, hF2, hL2⟩ := pz_a hz2 rfl rfl rfl
    have m0 : ν 100 = .int n := eF 100 (by decide) (by decide)
    have m2 : ν2 100 = .int n := fF 100 (by decide) (by decide)
    have v0 : 0 ≤ v.toInt := v0
    have v1 : v.toInt ≤ 0 := v1
    have w0 : 0 ≤ v2.toInt := w0
    have w1 : v2.toInt ≤ 0 := w1
    have ev : v.toInt = v2.toInt := by omega
    have hR' : RelQ G wx' wm' := RelQ.of (hR.m.keep hfx hfm (by decide)) (hR.a.keep hfx hfm (by decide)) (hR.d.keep hfx hfm (by decide)) (hR.c.keep hfx hfm (by decide)) (hR.x.keep hfx hfm (by decide)) (hR.b.keep hfx hfm (by decide)) (hR.h.keep hfx hfm (by decide)) (hR.t.keep hfx hfm (by decide)) (hR.k.keep hfx hfm (by decide))
    refine z_pop X d_lw_294 rfl ?_
    refine z_goto X d_lw_295 (tgt := 2192) (by decide) ?_
    exact hK wx' wm' hx' hl' hy' hR'
  · skip
    rw [List.append_assoc]
    refine cx_callP (rest := []) (As := [.int (xs (i + 1).toNatClampNeg)]) (μ := muF x [.int (xs (i + 1).toNatClampNeg)] [.int n]) X k_L_28 (ac_v_X10_end_1 l G) (by decide) hx (fun ad w0 he hag => pre_F (C := C_v_X10_end_1) (ts := [(0, 0, 80)]) (As := [.int (xs (i + 1).toNatClampNeg)]) (t0 := (0, 0, 80)) rfl rfl (Nat.le_of_ble_eq_true rfl) ⟨fun _ => vty_i (by omega) (by omega), trivial⟩ (fun _ => vty_i (by omega) (by omega)) (fun q hq => by rw [List.mem_singleton.mp hq]; show (xs (i + 1).toNatClampNeg).toInt ≤ n.toInt + 0; omega) ad w0 he ((hag 3 1 (by decide)).trans hn1)) rfl d_lw_280 ⟨by decide, by decide⟩ ⟨hc, hs⟩ rfl rfl (by decide) rfl (fun ad r wx' hz hx' hl' => ?_)
    rw [← List.append_assoc]
    have hfx := pz_fx hz
    obtain ⟨v, ν, rfl, v0, v1, e50, eA, eF, hF, hL⟩ := pz_a hz rfl rfl rfl
    refine z_pop X d_lw_283 rfl ?_
    refine z_aload_n X d_lw_284 rfl 2 rfl ?_
    refine z_aload_n X d_lw_285 rfl 0 rfl ?_
    refine z_iload X d_lw_286 4 rfl ?_
    refine z_iconst X d_lw_288 (v := 1) (by decide) ?_
    refine z_iadd X d_lw_289 ?_
    refine z_sld X hX hbl hbA (lw_in hi0 hi1 (k := 1) (by decide) (by decide)) d_lw_290 (v := xs (i + 1).toNatClampNeg) rfl ?_
    refine mx_callP (wa := wx') (rest := []) (As := [.int (xs (i + 1).toNatClampNeg)]) (μ := muF y [.int (xs (i + 1).toNatClampNeg)] [.int n]) X k_L_32 (ac_v_X11_end_1 l G) hy (fun ad he => pre_F (C := C_v_X11_end_1) (ts := [(0, 0, 80)]) (As := [.int (xs (i + 1).toNatClampNeg)]) (t0 := (0, 0, 80)) rfl rfl (Nat.le_of_ble_eq_true rfl) ⟨fun _ => vty_i (by omega) (by omega), trivial⟩ (fun _ => vty_i (by omega) (by omega)) (fun q hq => by rw [List.mem_singleton.mp hq]; show (xs (i + 1).toNatClampNeg).toInt ≤ n.toInt + 0; omega) ad wm he hn2) rfl d_lw_291 ⟨by decide, by decide⟩ ⟨hc, hs⟩ rfl rfl (Nat.le_of_ble_eq_true rfl) rfl (fun ad2 r wm' hz2 hy' => ?_)
    have hfm := pz_fx hz2
    obtain ⟨v2, ν2, rfl, w0, w1, f50, fA, fF, hF2, hL2⟩ := pz_a hz2 rfl rfl rfl
    have m0 : ν 100 = .int n := eF 100 (by decide) (by decide)
    have m2 : ν2 100 = .int n := fF 100 (by decide) (by decide)
    have v0 : 1 ≤ v.toInt := v0
    have v1 : v.toInt ≤ 1 := v1
    have w0 : 1 ≤ v2.toInt := w0
    have w1 : v2.toInt ≤ 1 := w1
    have ev : v.toInt = v2.toInt := by omega
    have f1 := hF 0 _ rfl
    have g1 := hF2 1 _ rfl
    obtain ⟨q1, en1, l1, u1⟩ := vty0 f1.1 rfl
    obtain ⟨q2, en2, l2, u2⟩ := vty0 g1.1 rfl
    have l1 : 0 ≤ q1.toInt := Int.le_trans (by decide) l1
    have u1 : q1.toInt ≤ 80 := u1
    have k0 : ν 1 = .int (xs (i + 1).toNatClampNeg) := eA 1 (by decide)
    have c0 : q1.toInt ≤ (xs (i + 1).toNatClampNeg).toInt + 0 := by
      have h := hL (200, 1, 0) (by decide)
      have h : vI (ν 200) ≤ vI (ν 1) + 0 := h
      rw [show ν 200 = .int q1 from en1, k0] at h
      exact h
    have d0 : (xs (i + 1).toNatClampNeg).toInt ≤ q1.toInt + 0 := by
      have h := hL (1, 200, 0) (by decide)
      have h : vI (ν 1) ≤ vI (ν 200) + 0 := h
      rw [show ν 200 = .int q1 from en1, k0] at h
      exact h
    have k1 : ν2 1 = .int (xs (i + 1).toNatClampNeg) := fA 1 (by decide)
    have c1 : q2.toInt ≤ (xs (i + 1).toNatClampNeg).toInt + 0 := by
      have h := hL2 (201, 1, 0) (by decide)
      have h : vI (ν2 201) ≤ vI (ν2 1) + 0 := h
      rw [show ν2 201 = .int q2 from en2, k1] at h
      exact h
    have d1 : (xs (i + 1).toNatClampNeg).toInt ≤ q2.toInt + 0 := by
      have h := hL2 (1, 201, 0) (by decide)
      have h : vI (ν2 1) ≤ vI (ν2 201) + 0 := h
      rw [show ν2 201 = .int q2 from en2, k1] at h
      exact h
    have e12 : q2 = q1 := Int32.toInt_inj.mp (by omega)
    have hR' : RelQ G wx' wm' := RelQ.of (hR.m.len hfx hfm (by decide) l1 u1 (by rw [← en1]; exact f1.2) (by rw [← e12, ← en2]; exact g1.2)) (hR.a.keep hfx hfm (by decide)) (hR.d.keep hfx hfm (by decide)) (hR.c.keep hfx hfm (by decide)) (hR.x.keep hfx hfm (by decide)) (hR.b.keep hfx hfm (by decide)) (hR.h.keep hfx hfm (by decide)) (hR.t.keep hfx hfm (by decide)) (hR.k.keep hfx hfm (by decide))
    refine z_pop X d_lw_294 rfl ?_
    refine z_goto X d_lw_295 (tgt := 2192) (by decide) ?_
    exact hK wx' wm' hx' hl' hy' hR'
  · skip
    rw [List.append_assoc]
    refine cx_callP (rest := []) (As := [.int (xs (i + 1).toNatClampNeg)]) (μ := muF x [.int (xs (i + 1).toNatClampNeg)] [.int n]) X k_L_28 (ac_v_X10_end_2 l G) (by decide) hx (fun ad w0 he hag => pre_F (C := C_v_X10_end_2) (ts := [(0, 0, 2147483647)]) (As := [.int (xs (i + 1).toNatClampNeg)]) (t0 := (0, 0, 80)) rfl rfl (Nat.le_of_ble_eq_true rfl) ⟨fun _ => vty_i (by omega) (i32_hi _), trivial⟩ (fun _ => vty_i (by omega) (by omega)) (fun q hq => by rw [List.mem_singleton.mp hq]; show n.toInt ≤ (xs (i + 1).toNatClampNeg).toInt + -1; omega) ad w0 he ((hag 3 1 (by decide)).trans hn1)) rfl d_lw_280 ⟨by decide, by decide⟩ ⟨hc, hs⟩ rfl rfl (by decide) rfl (fun ad r wx' hz hx' hl' => ?_)
    rw [← List.append_assoc]
    have hfx := pz_fx hz
    obtain ⟨v, ν, rfl, v0, v1, e50, eA, eF, hF, hL⟩ := pz_a hz rfl rfl rfl
    refine z_pop X d_lw_283 rfl ?_
    refine z_aload_n X d_lw_284 rfl 2 rfl ?_
    refine z_aload_n X d_lw_285 rfl 0 rfl ?_
    refine z_iload X d_lw_286 4 rfl ?_
    refine z_iconst X d_lw_288 (v := 1) (by decide) ?_
    refine z_iadd X d_lw_289 ?_
    refine z_sld X hX hbl hbA (lw_in hi0 hi1 (k := 1) (by decide) (by decide)) d_lw_290 (v := xs (i + 1).toNatClampNeg) rfl ?_
    refine mx_callP (wa := wx') (rest := []) (As := [.int (xs (i + 1).toNatClampNeg)]) (μ := muF y [.int (xs (i + 1).toNatClampNeg)] [.int n]) X k_L_32 (ac_v_X11_end_2 l G) hy (fun ad he => pre_F (C := C_v_X11_end_2) (ts := [(0, 0, 2147483647)]) (As := [.int (xs (i + 1).toNatClampNeg)]) (t0 := (0, 0, 80)) rfl rfl (Nat.le_of_ble_eq_true rfl) ⟨fun _ => vty_i (by omega) (i32_hi _), trivial⟩ (fun _ => vty_i (by omega) (by omega)) (fun q hq => by rw [List.mem_singleton.mp hq]; show n.toInt ≤ (xs (i + 1).toNatClampNeg).toInt + -1; omega) ad wm he hn2) rfl d_lw_291 ⟨by decide, by decide⟩ ⟨hc, hs⟩ rfl rfl (Nat.le_of_ble_eq_true rfl) rfl (fun ad2 r wm' hz2 hy' => ?_)
    have hfm := pz_fx hz2
    obtain ⟨v2, ν2, rfl, w0, w1, f50, fA, fF, hF2, hL2⟩ := pz_a hz2 rfl rfl rfl
    have m0 : ν 100 = .int n := eF 100 (by decide) (by decide)
    have m2 : ν2 100 = .int n := fF 100 (by decide) (by decide)
    have v0 : 0 ≤ v.toInt := v0
    have v1 : v.toInt ≤ 0 := v1
    have w0 : 0 ≤ v2.toInt := w0
    have w1 : v2.toInt ≤ 0 := w1
    have ev : v.toInt = v2.toInt := by omega
    have hR' : RelQ G wx' wm' := RelQ.of (hR.m.keep hfx hfm (by decide)) (hR.a.keep hfx hfm (by decide)) (hR.d.keep hfx hfm (by decide)) (hR.c.keep hfx hfm (by decide)) (hR.x.keep hfx hfm (by decide)) (hR.b.keep hfx hfm (by decide)) (hR.h.keep hfx hfm (by decide)) (hR.t.keep hfx hfm (by decide)) (hR.k.keep hfx hfm (by decide))
    refine z_pop X d_lw_294 rfl ?_
    refine z_goto X d_lw_295 (tgt := 2192) (by decide) ?_
    exact hK wx' wm' hx' hl' hy' hR'
theorem lc_2 (X : ZC p s m #[Value.ref b] meth c code 8 RL G (fun q : Nat => s.heap.size ≤ q) ret nm) (hX : va_X b L xs s s.heap) (hbl : b < s.heap.size) (hbA : ¬ s.heap.size ≤ b) (hi0 : 0 ≤ i.toInt) (hi1 : i.toInt + 10 ≤ (L : Int) ∧ L ≤ 5120) (hx : CWx G x wx) (hy : MWx G y wm) (hR : RelQ G wx wm) (hc : kc ≤ room_1.cells) (hs : ks ≤ room_1.slots) (hK : ∀ wx' wm', CWx G x wx' → wx'.length = wx.length → MWx G y wm' → RelQ G wx' wm' → Z p l e room_1 s m #[Value.ref b] below meth c 8 G (fun q : Nat => s.heap.size ≤ q) (lw_Z below #[Value.ref b] s) 2192 (lv5 b x y o i) [] (wx' ++ wm' ++ [(o, aJ G 1 f)]) kc ks) : Z p l e room_1 s m #[Value.ref b] below meth c 8 G (fun q : Nat => s.heap.size ≤ q) (lw_Z below #[Value.ref b] s) 298 (lv5 b x y o i) [] (wx ++ wm ++ [(o, aJ G 1 f)]) kc ks := by
  obtain ⟨n, h9, s9, c9, f9, g9, ⟨n0, n1⟩, rc9, e9, ⟨hn1, hn2⟩, ⟨a2, b2⟩, ⟨a3, b3⟩, ⟨a4, b4⟩, a5, b5⟩ := id hR.m
  refine z_aload_n X d_lw_298 rfl 1 rfl ?_
  obtain ⟨ha0, sa0, ca0, ⟨eh1, es1, ec1⟩, ⟨pq, pg, pa, pb, pe⟩, ⟨rq, rg, ra, rb, re⟩, ⟨fq, fg, fa, fb, fe⟩, ⟨oq, og, oa, ob1, oe⟩, ⟨wq, wg, wa1, wb1, we⟩⟩ := id hR.a
  obtain rfl := some_int (a2.symm.trans eh1)
  obtain rfl := some_int (a3.symm.trans es1)
  obtain rfl := some_int (a4.symm.trans ec1)
  obtain ⟨hd0, eh2, ⟨dq, dg, da, db, de⟩, -⟩ := id hR.d
  obtain ⟨hd1, eh3, ⟨xq, xg, xa, xb, xe⟩, ⟨yq, yg, ya, yb, ye⟩⟩ := id hR.x
  obtain rfl := some_int (a2.symm.trans eh3)
  obtain ⟨hd2, hq, hg, hr, x1, x2, x3, x4, -⟩ := id hR.h
  obtain rfl := arrinj (ra.symm.trans x4)
  rw [List.append_assoc]
  refine cx_callG (rm := { frames := 6, cells := 0, slots := 0, locals := 132 }) (m0 := C_t_X10_mill_0.2.2.2.2.1) (Ψ := (fun r w1 => MilE 3 1 5 0 12 0 18 0 n f9 h9 s9 c9 r w1 ∧ MilA G 5 0 12 0 18 0 6 9 13 14 19 f9 (if 60 < n then 60 else n) h9 s9 c9 pq rq fq oq wq w1 ∧ MilX G 5 0 7 8 f9 (if 60 < n then 60 else n) h9 s9 c9 xq yq w1)) (rest := []) (As := []) X k_L_33 (fun ad w0 hW hag => ac_mi3x l G hW ((fget_eq (hag 3 1 (by decide))).trans hn1) ((fget_eq (hag 5 0 (by decide))).trans a2) ((fget_eq (hag 12 0 (by decide))).trans a3) ((fget_eq (hag 18 0 (by decide))).trans a4) ((hag 4 0 (by decide)).trans a5) ((hag 6 0 (by decide)).trans pa) ((hag 9 0 (by decide)).trans ra) ((hag 13 0 (by decide)).trans fa) ((hag 14 0 (by decide)).trans oa) ((hag 19 0 (by decide)).trans wa1) ((hag 7 0 (by decide)).trans xa) ((hag 8 0 (by decide)).trans ya)) ⟨rfl, rfl⟩ (by decide) (fun r w1 wc hl h => ⟨h.1.app ⟨by omega, by omega, by omega, by omega⟩, h.2.1.app ⟨⟨by omega, by omega, by omega⟩, by omega, by omega, by omega, by omega, by omega⟩, h.2.2.app ⟨by omega, by omega, by omega⟩⟩) hx d_lw_299 ⟨by decide, by decide⟩ ⟨hc, hs⟩ rfl rfl (by decide) rfl (fun r wx' hz hx' hl' hfx => ?_)
  rw [← List.append_assoc]
  obtain ⟨v, rfl⟩ := hz.1.ret
  refine z_pop X d_lw_302 rfl ?_
  refine z_aload_n X d_lw_303 rfl 2 rfl ?_
  refine mx_callG (rm := { frames := 5, cells := 0, slots := 0, locals := 110 }) (m0 := C_mill1.2.2.2.2.1) (Ψ := (fun r w1 => MilE 0 19 0 3 0 10 0 16 n g9 h9 s9 c9 r w1 ∧ MilA G 0 3 0 10 0 16 2 5 8 9 13 g9 (if 60 < n then 60 else n) h9 s9 c9 pg rg fg og wg w1 ∧ MilX G 0 3 3 4 g9 (if 60 < n then 60 else n) h9 s9 c9 xg yg w1 ∧ MilD G 0 3 7 g9 (if 60 < n then 60 else n) h9 s9 c9 dg w1 ∧ MilD G 0 3 6 g9 (if 60 < n then 60 else n) h9 s9 c9 hg w1)) (wa := wx') (rest := []) (As := []) X k_L_37 (fun ad hW => ac_mi3m l G hW hn2 b2 b3 b4 b5 pb rb fb ob1 wb1 xb yb db x3) ⟨rfl, rfl⟩ hy d_lw_304 ⟨by decide, by decide⟩ ⟨hc, hs⟩ rfl rfl (Nat.le_of_ble_eq_true rfl) rfl (fun r wm' hz2 hy' hfm => ?_)
  obtain ⟨v2, rfl⟩ := hz2.1.ret
  obtain ⟨ev0, hM'⟩ := RelM.mil hfx hfm (by decide) e9 a5 b5 hz.1 hz2.1
  obtain ⟨u9, -, -, ⟨ux, -, -⟩, -, ur, -⟩ := id hz.2.1
  have hr0 : ∀ q : Nat → Int32, cget wx' 9 0 = some (.inr (cyI G, 16, .inl q)) → ∀ j : Nat, j < 16 → 0 ≤ (q j).toInt := fun q e j hj => cwx_room hx' e j hj
  have hA' : RelAr G wx' wm' := RelAr.mil hM' (lim60 n) e9 hz.2.1 hz2.2.1 ⟨pe, re, fe, oe, we⟩
  have hD' : RelD G wx' wm' := RelD.mil hM' hR.d hfx (by decide) a2 db hz2.2.2.2.1 (fun h2 e => hz.1.ge e)
  have hX' : RelXY G wx' wm' := RelXY.mil hM' (lim60 n) e9 hz.2.2 hz2.2.2.1 ⟨xe, ye⟩
  have hB' : RelB G wx' wm' := RelB.mil hR.b ⟨a2, a3, a4⟩ ⟨rc9.1.1, rc9.2.1.1, rc9.2.2.1⟩ hz.1 hz.2.1 hz.2.2 ⟨xa, ya, fa, oa, wa1⟩
  have hH' : RelH G wx' wm' := RelH.mil hM' hR.h hfx (by decide) a2 x3 ra hz2.2.2.2.2 ur hr0 (fun h2 e => hz.1.ge e)
  have hK' : RelKh G wx' wm' := RelKh.mil hR.k hfx hfm (by decide) a2 ux ra ur hr0 (hz.1.ge ux)
  have hR' : RelQ G wx' wm' := RelQ.of (hM') (hA') (hD') (hR.c.keep hfx hfm (by decide)) (hX') (hB') (hH') (hR.t.keep hfx hfm (by decide)) (hK')
  have ev : v.toInt = v2.toInt := congrArg Int32.toInt ev0
  refine z_pop X d_lw_307 rfl ?_
  refine z_goto X d_lw_308 (tgt := 2192) (by decide) ?_
  exact hK wx' wm' hx' hl' hy' hR'
theorem lc_3 (X : ZC p s m #[Value.ref b] meth c code 8 RL G (fun q : Nat => s.heap.size ≤ q) ret nm) (hX : va_X b L xs s s.heap) (hbl : b < s.heap.size) (hbA : ¬ s.heap.size ≤ b) (hi0 : 0 ≤ i.toInt) (hi1 : i.toInt + 10 ≤ (L : Int) ∧ L ≤ 5120) (hx : CWx G x wx) (hy : MWx G y wm) (hR : RelQ G wx wm) (hE : EXs (fun q : Nat => s.heap.size ≤ q) s s.heap) (hst : l.stackTraces = false) (hc : kc + 1 ≤ room_1.cells) (hs : ks + 6 ≤ room_1.slots) (hK : ∀ wx' wm' f', CWx G x wx' → wx'.length = wx.length → MWx G y wm' → RelQ G wx' wm' → Z p l e room_1 s m #[Value.ref b] below meth c 8 G (fun q : Nat => s.heap.size ≤ q) (lw_Z below #[Value.ref b] s) 2192 (lv5 b x y o i) [] (wx' ++ wm' ++ [(o, aJ G 1 f')]) (kc + 1) (ks + 6)) : Z p l e room_1 s m #[Value.ref b] below meth c 8 G (fun q : Nat => s.heap.size ≤ q) (lw_Z below #[Value.ref b] s) 311 (lv5 b x y o i) [] (wx ++ wm ++ [(o, aJ G 1 f)]) kc ks := by
  refine z_aload_n X d_lw_311 rfl 1 rfl ?_
  refine z_aload_n X d_lw_312 rfl 0 rfl ?_
  refine z_iload X d_lw_313 4 rfl ?_
  refine z_iconst X d_lw_315 (v := 1) (by decide) ?_
  refine z_iadd X d_lw_316 ?_
  refine z_sld X hX hbl hbA (lw_in hi0 hi1 (k := 1) (by decide) (by decide)) d_lw_317 (v := xs (i + 1).toNatClampNeg) rfl ?_
  refine z_aload_n X d_lw_318 rfl 0 rfl ?_
  refine z_iload X d_lw_319 4 rfl ?_
  refine z_iconst X d_lw_321 (v := 2) (by decide) ?_
  refine z_iadd X d_lw_322 ?_
  refine z_sld X hX hbl hbA (lw_in hi0 hi1 (k := 2) (by decide) (by decide)) d_lw_323 (v := xs (i + 2).toNatClampNeg) rfl ?_
  refine z_aload_n X d_lw_324 rfl 3 rfl ?_
  refine sx_callF (x := x) (oa := o) (rm := { frames := 7, cells := 1, slots := 6, locals := 104 }) (rest := []) (As := [.ref (x), .int (xs (i + 1).toNatClampNeg), .int (xs (i + 2).toNatClampNeg), .ref (o)]) X k_L_38 hE (fun ad w0 h1 h2 h3 => by rw [← h3]; exact cl_hole l hst G h1 h2 _ _ o f) hx d_lw_325 ⟨by decide, by decide⟩ ⟨hc, hs⟩ rfl rfl (by decide) rfl (fun v wx' f' hx' hl' hfx => ?_)
  refine z_istore X d_lw_328 (by decide) (lv' := [(5, .int (v)), (0, .ref (b)), (1, .ref (x)), (2, .ref (y)), (3, .ref (o)), (4, .int (i))]) rfl ?_
  refine z_aload_n X d_lw_330 rfl 3 rfl ?_
  refine z_aload_n X d_lw_331 rfl 1 rfl ?_
  refine z_iload X d_lw_332 5 rfl ?_
  refine z_iconst X d_lw_334 (v := 1) (by decide) ?_
  refine z_iadd X d_lw_335 ?_
  refine z_sld X hX hbl hbA (lw_in hi0 hi1 (k := 1) (by decide) (by decide)) d_lw_336 (v := xs (i + 1).toNatClampNeg) rfl ?_
  refine z_aload_n X d_lw_337 rfl 1 rfl ?_
  refine z_iload X d_lw_338 5 rfl ?_
  refine z_iconst X d_lw_340 (v := 2) (by decide) ?_
  refine z_iadd X d_lw_341 ?_
  refine z_sld X hX hbl hbA (lw_in hi0 hi1 (k := 2) (by decide) (by decide)) d_lw_342 (v := xs (i + 2).toNatClampNeg) rfl ?_
  refine mx_callF (k := 0) (wa := wx') (rest := []) (As := [.int (xs (i + 1).toNatClampNeg), .int (xs (i + 2).toNatClampNeg)]) (μ := (fun k => ((Value.ref y :: [.int (xs (i + 1).toNatClampNeg), .int (xs (i + 2).toNatClampNeg)])[k]?).getD .null)) X k_L_43 (ac_X11_hole_0 l G) (by decide) (by decide) hy (fun ad w0 he => pre_mu (C := C_X11_hole_0) (ts := [tI0, tI0]) (As := [.int (xs (i + 1).toNatClampNeg), .int (xs (i + 2).toNatClampNeg)]) rfl rfl rfl rfl ⟨fun _ => vty_i0 _, fun _ => vty_i0 _, trivial⟩ ad w0 he) rfl d_lw_343 ⟨by decide, by decide⟩ ⟨hc, hs⟩ rfl rfl (Nat.le_of_ble_eq_true rfl) rfl (fun r wm' hr hy' hfm => ?_)
  rcases hr with ⟨h, -⟩ | ⟨-, v2, rfl⟩ | ⟨h, -⟩
  all_goals first | (exact absurd h (by decide)) | skip
  refine z_istore X d_lw_346 (by decide) (lv' := [(6, .int (v2)), (5, .int (v)), (0, .ref (b)), (1, .ref (x)), (2, .ref (y)), (3, .ref (o)), (4, .int (i))]) rfl ?_
  refine z_goto X d_lw_348 (tgt := 2192) (by decide) ?_
  exact Z.mono (fun q hq => by simp only [List.mem_cons, List.not_mem_nil, or_false] at hq ⊢; rcases hq with h | h | h | h | h <;> simp [h]) (hK wx' wm' f' hx' hl' hy' (RelQ.of (hR.m.keep hfx hfm (by decide)) (hR.a.keep hfx hfm (by decide)) (hR.d.keep hfx hfm (by decide)) (hR.c.keep hfx hfm (by decide)) (hR.x.keep hfx hfm (by decide)) (hR.b.keep hfx hfm (by decide)) (hR.h.keep hfx hfm (by decide)) (hR.t.keep hfx hfm (by decide)) (hR.k.keep hfx hfm (by decide))))
theorem lc_4 (X : ZC p s m #[Value.ref b] meth c code 8 RL G (fun q : Nat => s.heap.size ≤ q) ret nm) (hX : va_X b L xs s s.heap) (hbl : b < s.heap.size) (hbA : ¬ s.heap.size ≤ b) (hi0 : 0 ≤ i.toInt) (hi1 : i.toInt + 10 ≤ (L : Int) ∧ L ≤ 5120) (hx : CWx G x wx) (hy : MWx G y wm) (hR : RelQ G wx wm) (hc : kc ≤ room_1.cells) (hs : ks ≤ room_1.slots) (hK : ∀ wx' wm', CWx G x wx' → wx'.length = wx.length → MWx G y wm' → RelQ G wx' wm' → Z p l e room_1 s m #[Value.ref b] below meth c 8 G (fun q : Nat => s.heap.size ≤ q) (lw_Z below #[Value.ref b] s) 2192 (lv5 b x y o i) [] (wx' ++ wm' ++ [(o, aJ G 1 f)]) kc ks) : Z p l e room_1 s m #[Value.ref b] below meth c 8 G (fun q : Nat => s.heap.size ≤ q) (lw_Z below #[Value.ref b] s) 351 (lv5 b x y o i) [] (wx ++ wm ++ [(o, aJ G 1 f)]) kc ks := by
  obtain ⟨n, h9, s9, c9, f9, g9, ⟨n0, n1⟩, rc9, e9, ⟨hn1, hn2⟩, ⟨a2, b2⟩, ⟨a3, b3⟩, ⟨a4, b4⟩, a5, b5⟩ := id hR.m
  refine z_aload_n X d_lw_351 rfl 1 rfl ?_
  refine z_aload_n X d_lw_352 rfl 0 rfl ?_
  refine z_iload X d_lw_353 4 rfl ?_
  refine z_iconst X d_lw_355 (v := 1) (by decide) ?_
  refine z_iadd X d_lw_356 ?_
  refine z_sld X hX hbl hbA (lw_in hi0 hi1 (k := 1) (by decide) (by decide)) d_lw_357 (v := xs (i + 1).toNatClampNeg) rfl ?_
  refine z_aload_n X d_lw_358 rfl 0 rfl ?_
  refine z_iload X d_lw_359 4 rfl ?_
  refine z_iconst X d_lw_361 (v := 2) (by decide) ?_
  refine z_iadd X d_lw_362 ?_
  refine z_sld X hX hbl hbA (lw_in hi0 hi1 (k := 2) (by decide) (by decide)) d_lw_363 (v := xs (i + 2).toNatClampNeg) rfl ?_
  obtain ⟨hh9, hq, hg, hr, x1, x2, x3, x4, x5, x6, x7⟩ := id hR.h
  obtain rfl := some_int (a2.symm.trans x1)
  obtain ⟨ha0, sa0, ca0, ⟨eh1, es1, ec1⟩, ⟨pq, pg, pa, pb, pe⟩, ⟨rq, rg, ra, rb, re⟩, ⟨fq, fg, fa, fb, fe⟩, ⟨oq, og, oa, ob1, oe⟩, ⟨wq, wg, wa1, wb1, we⟩⟩ := id hR.a
  obtain rfl := some_int (a2.symm.trans eh1)
  obtain rfl := some_int (a3.symm.trans es1)
  obtain rfl := some_int (a4.symm.trans ec1)
  obtain rfl := arrinj (ra.symm.trans x4)
  obtain ⟨l1, l2, l3, l4⟩ := lead_E (h := h9) (q := hq) (g := hg) (r := rq) (rm := rg) (a := xs (i + 1).toNatClampNeg) (v := xs (i + 2).toNatClampNeg) rc9.1.2 x5 x6 x7 re
  rw [List.append_assoc]
  refine cx_callG (rm := { frames := 1, cells := 0, slots := 0, locals := 21 }) (m0 := C_X10_lead_0.2.2.2.2.1) (Ψ := (fun r w1 => r = some (.int (mLead h9.toInt rq hq (xs (i + 1).toNatClampNeg) (xs (i + 2).toNatClampNeg)).1) ∧ CQ G w1 10 16 (mLead h9.toInt rq hq (xs (i + 1).toNatClampNeg) (xs (i + 2).toNatClampNeg)).2)) (rest := []) (As := [.int (xs (i + 1).toNatClampNeg), .int (xs (i + 2).toNatClampNeg)]) X k_L_44 (fun ad w0 hW hag => ac_ldx l G hW ((fget_eq (hag 5 0 (by decide))).trans a2) ((hag 9 0 (by decide)).trans ra) ((hag 10 0 (by decide)).trans x2)) ⟨rfl, rfl⟩ (by decide) (fun r w1 wc hl h => ⟨h.1, h.2.app (by omega)⟩) hx d_lw_364 ⟨by decide, by decide⟩ ⟨hc, hs⟩ rfl rfl (by decide) rfl (fun r wx' hz hx' hl' hfx => ?_)
  rw [← List.append_assoc]
  obtain ⟨v, rfl⟩ := (⟨_, hz.1⟩ : ∃ v : Int32, r = some (Value.int v))
  refine z_pop X d_lw_367 rfl ?_
  refine z_aload_n X d_lw_368 rfl 2 rfl ?_
  refine z_aload_n X d_lw_369 rfl 0 rfl ?_
  refine z_iload X d_lw_370 4 rfl ?_
  refine z_iconst X d_lw_372 (v := 1) (by decide) ?_
  refine z_iadd X d_lw_373 ?_
  refine z_sld X hX hbl hbA (lw_in hi0 hi1 (k := 1) (by decide) (by decide)) d_lw_374 (v := xs (i + 1).toNatClampNeg) rfl ?_
  refine z_aload_n X d_lw_375 rfl 0 rfl ?_
  refine z_iload X d_lw_376 4 rfl ?_
  refine z_iconst X d_lw_378 (v := 2) (by decide) ?_
  refine z_iadd X d_lw_379 ?_
  refine z_sld X hX hbl hbA (lw_in hi0 hi1 (k := 2) (by decide) (by decide)) d_lw_380 (v := xs (i + 2).toNatClampNeg) rfl ?_
  refine mx_callG (rm := { frames := 2, cells := 0, slots := 0, locals := 46 }) (m0 := C_X11_lead_0.2.2.2.2.1) (Ψ := (fun r w1 => r = some (.int (mLead h9.toInt rg hg (xs (i + 1).toNatClampNeg) (xs (i + 2).toNatClampNeg)).1) ∧ CQ G w1 6 16 (mLead h9.toInt rg hg (xs (i + 1).toNatClampNeg) (xs (i + 2).toNatClampNeg)).2)) (wa := wx') (rest := []) (As := [.int (xs (i + 1).toNatClampNeg), .int (xs (i + 2).toNatClampNeg)]) X k_L_47 (fun ad hW => ac_ldm l G hW b2 rb x3) ⟨rfl, rfl⟩ hy d_lw_381 ⟨by decide, by decide⟩ ⟨hc, hs⟩ rfl rfl (Nat.le_of_ble_eq_true rfl) rfl (fun r wm' hz2 hy' hfm => ?_)
  obtain ⟨v2, rfl⟩ := (⟨_, hz2.1⟩ : ∃ v : Int32, r = some (Value.int v))
  obtain ⟨ev0, hM'⟩ := (⟨(some_int hz.1).trans (l1.trans (some_int hz2.1).symm), RelH.set hR.h hfx (by decide) a2 ra hz.2 hz2.2 l2 l3 l4⟩ : v = v2 ∧ RelH G wx' wm')
  have hR' : RelQ G wx' wm' := RelQ.of (hR.m.keep hfx hfm (by decide)) (hR.a.keep hfx hfm (by decide)) (hR.d.keep hfx hfm (by decide)) (hR.c.keep hfx hfm (by decide)) (hR.x.keep hfx hfm (by decide)) (hR.b.keep hfx hfm (by decide)) (hM') (hR.t.keep hfx hfm (by decide)) (hR.k.keep hfx hfm (by decide))
  have ev : v.toInt = v2.toInt := congrArg Int32.toInt ev0
  refine z_pop X d_lw_384 rfl ?_
  refine z_goto X d_lw_385 (tgt := 2192) (by decide) ?_
  exact hK wx' wm' hx' hl' hy' hR'
theorem lc_5 (X : ZC p s m #[Value.ref b] meth c code 8 RL G (fun q : Nat => s.heap.size ≤ q) ret nm) (hX : va_X b L xs s s.heap) (hbl : b < s.heap.size) (hbA : ¬ s.heap.size ≤ b) (hi0 : 0 ≤ i.toInt) (hi1 : i.toInt + 10 ≤ (L : Int) ∧ L ≤ 5120) (hx : CWx G x wx) (hy : MWx G y wm) (hR : RelQ G wx wm) (hc : kc ≤ room_1.cells) (hs : ks ≤ room_1.slots) (hK : ∀ wx' wm', CWx G x wx' → wx'.length = wx.length → MWx G y wm' → RelQ G wx' wm' → Z p l e room_1 s m #[Value.ref b] below meth c 8 G (fun q : Nat => s.heap.size ≤ q) (lw_Z below #[Value.ref b] s) 2192 (lv5 b x y o i) [] (wx' ++ wm' ++ [(o, aJ G 1 f)]) kc ks) : Z p l e room_1 s m #[Value.ref b] below meth c 8 G (fun q : Nat => s.heap.size ≤ q) (lw_Z below #[Value.ref b] s) 388 (lv5 b x y o i) [] (wx ++ wm ++ [(o, aJ G 1 f)]) kc ks := by
  obtain ⟨n, h9, s9, c9, f9, g9, ⟨n0, n1⟩, rc9, e9, ⟨hn1, hn2⟩, ⟨a2, b2⟩, ⟨a3, b3⟩, ⟨a4, b4⟩, a5, b5⟩ := id hR.m
  refine z_aload_n X d_lw_388 rfl 1 rfl ?_
  refine z_aload_n X d_lw_389 rfl 0 rfl ?_
  refine z_iload X d_lw_390 4 rfl ?_
  refine z_iconst X d_lw_392 (v := 1) (by decide) ?_
  refine z_iadd X d_lw_393 ?_
  refine z_sld X hX hbl hbA (lw_in hi0 hi1 (k := 1) (by decide) (by decide)) d_lw_394 (v := xs (i + 1).toNatClampNeg) rfl ?_
  refine z_aload_n X d_lw_395 rfl 0 rfl ?_
  refine z_iload X d_lw_396 4 rfl ?_
  refine z_iconst X d_lw_398 (v := 2) (by decide) ?_
  refine z_iadd X d_lw_399 ?_
  refine z_sld X hX hbl hbA (lw_in hi0 hi1 (k := 2) (by decide) (by decide)) d_lw_400 (v := xs (i + 2).toNatClampNeg) rfl ?_
  obtain ⟨hd0, eh2, ⟨dq, dg, da, db, de⟩, dq2, da2, dz⟩ := id hR.d
  obtain rfl := some_int (a2.symm.trans eh2)
  rw [List.append_assoc]
  refine cx_callG (rm := { frames := 1, cells := 0, slots := 0, locals := 21 }) (m0 := C_X10_deep_0.2.2.2.2.1) (Ψ := (fun r w1 => r = some (.int (mDeep h9.toInt dq (xs (i + 1).toNatClampNeg) (xs (i + 2).toNatClampNeg)).1) ∧ CQ G w1 11 16 (mDeep h9.toInt dq (xs (i + 1).toNatClampNeg) (xs (i + 2).toNatClampNeg)).2)) (rest := []) (As := [.int (xs (i + 1).toNatClampNeg), .int (xs (i + 2).toNatClampNeg)]) X k_L_48 (fun ad w0 hW hag => ac_dpx l G hW ((fget_eq (hag 5 0 (by decide))).trans a2) ((hag 11 0 (by decide)).trans da)) ⟨rfl, rfl⟩ (by decide) (fun r w1 wc hl h => ⟨h.1, h.2.app (by omega)⟩) hx d_lw_401 ⟨by decide, by decide⟩ ⟨hc, hs⟩ rfl rfl (by decide) rfl (fun r wx' hz hx' hl' hfx => ?_)
  rw [← List.append_assoc]
  obtain ⟨v, rfl⟩ := (⟨_, hz.1⟩ : ∃ v : Int32, r = some (Value.int v))
  refine z_pop X d_lw_404 rfl ?_
  refine z_aload_n X d_lw_405 rfl 2 rfl ?_
  refine z_aload_n X d_lw_406 rfl 0 rfl ?_
  refine z_iload X d_lw_407 4 rfl ?_
  refine z_iconst X d_lw_409 (v := 1) (by decide) ?_
  refine z_iadd X d_lw_410 ?_
  refine z_sld X hX hbl hbA (lw_in hi0 hi1 (k := 1) (by decide) (by decide)) d_lw_411 (v := xs (i + 1).toNatClampNeg) rfl ?_
  refine z_aload_n X d_lw_412 rfl 0 rfl ?_
  refine z_iload X d_lw_413 4 rfl ?_
  refine z_iconst X d_lw_415 (v := 2) (by decide) ?_
  refine z_iadd X d_lw_416 ?_
  refine z_sld X hX hbl hbA (lw_in hi0 hi1 (k := 2) (by decide) (by decide)) d_lw_417 (v := xs (i + 2).toNatClampNeg) rfl ?_
  refine mx_callG (rm := { frames := 2, cells := 0, slots := 0, locals := 46 }) (m0 := C_X11_deep_0.2.2.2.2.1) (Ψ := (fun r w1 => r = some (.int (mDeep h9.toInt dg (xs (i + 1).toNatClampNeg) (xs (i + 2).toNatClampNeg)).1) ∧ CQ G w1 7 16 (mDeep h9.toInt dg (xs (i + 1).toNatClampNeg) (xs (i + 2).toNatClampNeg)).2)) (wa := wx') (rest := []) (As := [.int (xs (i + 1).toNatClampNeg), .int (xs (i + 2).toNatClampNeg)]) X k_L_51 (fun ad hW => ac_dpm l G hW b2 db) ⟨rfl, rfl⟩ hy d_lw_418 ⟨by decide, by decide⟩ ⟨hc, hs⟩ rfl rfl (Nat.le_of_ble_eq_true rfl) rfl (fun r wm' hz2 hy' hfm => ?_)
  obtain ⟨v2, rfl⟩ := (⟨_, hz2.1⟩ : ∃ v : Int32, r = some (Value.int v))
  obtain ⟨ev0, hM'⟩ := RelD.deep hR.d hfx hfm (by decide) rc9.1.2 a2 da db hz hz2
  have hR' : RelQ G wx' wm' := RelQ.of (hR.m.keep hfx hfm (by decide)) (hR.a.keep hfx hfm (by decide)) (hM') (hR.c.keep hfx hfm (by decide)) (hR.x.keep hfx hfm (by decide)) (hR.b.keep hfx hfm (by decide)) (hR.h.keep hfx hfm (by decide)) (hR.t.keep hfx hfm (by decide)) (hR.k.keep hfx hfm (by decide))
  have ev : v.toInt = v2.toInt := congrArg Int32.toInt ev0
  refine z_pop X d_lw_421 rfl ?_
  refine z_goto X d_lw_422 (tgt := 2192) (by decide) ?_
  exact hK wx' wm' hx' hl' hy' hR'
theorem lc_6 (X : ZC p s m #[Value.ref b] meth c code 8 RL G (fun q : Nat => s.heap.size ≤ q) ret nm) (hX : va_X b L xs s s.heap) (hbl : b < s.heap.size) (hbA : ¬ s.heap.size ≤ b) (hi0 : 0 ≤ i.toInt) (hi1 : i.toInt + 10 ≤ (L : Int) ∧ L ≤ 5120) (hx : CWx G x wx) (hy : MWx G y wm) (hR : RelQ G wx wm) (hc : kc ≤ room_1.cells) (hs : ks ≤ room_1.slots) (hK : ∀ wx' wm', CWx G x wx' → wx'.length = wx.length → MWx G y wm' → RelQ G wx' wm' → Z p l e room_1 s m #[Value.ref b] below meth c 8 G (fun q : Nat => s.heap.size ≤ q) (lw_Z below #[Value.ref b] s) 2192 (lv5 b x y o i) [] (wx' ++ wm' ++ [(o, aJ G 1 f)]) kc ks) : Z p l e room_1 s m #[Value.ref b] below meth c 8 G (fun q : Nat => s.heap.size ≤ q) (lw_Z below #[Value.ref b] s) 425 (lv5 b x y o i) [] (wx ++ wm ++ [(o, aJ G 1 f)]) kc ks := by
  obtain ⟨n, h9, s9, c9, f9, g9, ⟨n0, n1⟩, rc9, e9, ⟨hn1, hn2⟩, ⟨a2, b2⟩, ⟨a3, b3⟩, ⟨a4, b4⟩, a5, b5⟩ := id hR.m
  refine z_aload_n X d_lw_425 rfl 1 rfl ?_
  refine z_aload_n X d_lw_426 rfl 0 rfl ?_
  refine z_iload X d_lw_427 4 rfl ?_
  refine z_iconst X d_lw_429 (v := 1) (by decide) ?_
  refine z_iadd X d_lw_430 ?_
  refine z_sld X hX hbl hbA (lw_in hi0 hi1 (k := 1) (by decide) (by decide)) d_lw_431 (v := xs (i + 1).toNatClampNeg) rfl ?_
  refine z_aload_n X d_lw_432 rfl 0 rfl ?_
  refine z_iload X d_lw_433 4 rfl ?_
  refine z_iconst X d_lw_435 (v := 2) (by decide) ?_
  refine z_iadd X d_lw_436 ?_
  refine z_sld X hX hbl hbA (lw_in hi0 hi1 (k := 2) (by decide) (by decide)) d_lw_437 (v := xs (i + 2).toNatClampNeg) rfl ?_
  refine z_aload_n X d_lw_438 rfl 0 rfl ?_
  refine z_iload X d_lw_439 4 rfl ?_
  refine z_iconst X d_lw_441 (v := 3) (by decide) ?_
  refine z_iadd X d_lw_442 ?_
  refine z_sld X hX hbl hbA (lw_in hi0 hi1 (k := 3) (by decide) (by decide)) d_lw_443 (v := xs (i + 3).toNatClampNeg) rfl ?_
  refine z_aload_n X d_lw_444 rfl 0 rfl ?_
  refine z_iload X d_lw_445 4 rfl ?_
  refine z_iconst X d_lw_447 (v := 4) (by decide) ?_
  refine z_iadd X d_lw_448 ?_
  refine z_sld X hX hbl hbA (lw_in hi0 hi1 (k := 4) (by decide) (by decide)) d_lw_449 (v := xs (i + 4).toNatClampNeg) rfl ?_
  obtain ⟨hh9, hq, hg, hr, x1, x2, x3, x4, x5, x6, x7⟩ := id hR.h
  obtain rfl := some_int (a2.symm.trans x1)
  obtain ⟨ha0, sa0, ca0, ⟨eh1, es1, ec1⟩, ⟨pq, pg, pa, pb, pe⟩, ⟨rq, rg, ra, rb, re⟩, ⟨fq, fg, fa, fb, fe⟩, ⟨oq, og, oa, ob1, oe⟩, ⟨wq, wg, wa1, wb1, we⟩⟩ := id hR.a
  obtain rfl := some_int (a2.symm.trans eh1)
  obtain rfl := some_int (a3.symm.trans es1)
  obtain rfl := some_int (a4.symm.trans ec1)
  obtain rfl := arrinj (ra.symm.trans x4)
  obtain ⟨l2, l3, l4⟩ := sheet_E (h := h9.toInt) (k := xs (i + 1).toNatClampNeg) (n := xs (i + 2).toNatClampNeg) (f := xs (i + 3).toNatClampNeg) (st := xs (i + 4).toNatClampNeg) (r := rq) (rm := rg) (q := hq) (g := hg) (cwx_room hx ra) re x5 x6 x7
  rw [List.append_assoc]
  refine cx_callG (rm := { frames := 1, cells := 0, slots := 0, locals := 22 }) (m0 := C_X10_sheet_0.2.2.2.2.1) (Ψ := (fun r w1 => r = some (.int (mSx h9.toInt (xs (i + 1).toNatClampNeg) (xs (i + 2).toNatClampNeg) (xs (i + 3).toNatClampNeg) (xs (i + 4).toNatClampNeg) rq)) ∧ CQ G w1 10 16 (nSx h9.toInt (xs (i + 1).toNatClampNeg) (xs (i + 2).toNatClampNeg) (xs (i + 3).toNatClampNeg) (xs (i + 4).toNatClampNeg) rq hq))) (rest := []) (As := [.int (xs (i + 1).toNatClampNeg), .int (xs (i + 2).toNatClampNeg), .int (xs (i + 3).toNatClampNeg), .int (xs (i + 4).toNatClampNeg)]) X k_L_52 (fun ad w0 hW hag => ac_shx l G hW ((fget_eq (hag 5 0 (by decide))).trans a2) ((hag 9 0 (by decide)).trans ra) ((hag 10 0 (by decide)).trans x2)) ⟨rfl, rfl⟩ (by decide) (fun r w1 wc hl h => ⟨h.1, h.2.app (by omega)⟩) hx d_lw_450 ⟨by decide, by decide⟩ ⟨hc, hs⟩ rfl rfl (by decide) rfl (fun r wx' hz hx' hl' hfx => ?_)
  rw [← List.append_assoc]
  obtain ⟨v, rfl⟩ := (⟨_, hz.1⟩ : ∃ v : Int32, r = some (Value.int v))
  refine z_pop X d_lw_453 rfl ?_
  refine z_aload_n X d_lw_454 rfl 2 rfl ?_
  refine z_aload_n X d_lw_455 rfl 0 rfl ?_
  refine z_iload X d_lw_456 4 rfl ?_
  refine z_iconst X d_lw_458 (v := 1) (by decide) ?_
  refine z_iadd X d_lw_459 ?_
  refine z_sld X hX hbl hbA (lw_in hi0 hi1 (k := 1) (by decide) (by decide)) d_lw_460 (v := xs (i + 1).toNatClampNeg) rfl ?_
  refine z_aload_n X d_lw_461 rfl 0 rfl ?_
  refine z_iload X d_lw_462 4 rfl ?_
  refine z_iconst X d_lw_464 (v := 2) (by decide) ?_
  refine z_iadd X d_lw_465 ?_
  refine z_sld X hX hbl hbA (lw_in hi0 hi1 (k := 2) (by decide) (by decide)) d_lw_466 (v := xs (i + 2).toNatClampNeg) rfl ?_
  refine z_aload_n X d_lw_467 rfl 0 rfl ?_
  refine z_iload X d_lw_468 4 rfl ?_
  refine z_iconst X d_lw_470 (v := 3) (by decide) ?_
  refine z_iadd X d_lw_471 ?_
  refine z_sld X hX hbl hbA (lw_in hi0 hi1 (k := 3) (by decide) (by decide)) d_lw_472 (v := xs (i + 3).toNatClampNeg) rfl ?_
  refine z_aload_n X d_lw_473 rfl 0 rfl ?_
  refine z_iload X d_lw_474 4 rfl ?_
  refine z_iconst X d_lw_476 (v := 4) (by decide) ?_
  refine z_iadd X d_lw_477 ?_
  refine z_sld X hX hbl hbA (lw_in hi0 hi1 (k := 4) (by decide) (by decide)) d_lw_478 (v := xs (i + 4).toNatClampNeg) rfl ?_
  refine mx_callG (rm := { frames := 1, cells := 0, slots := 0, locals := 25 }) (m0 := C_X11_sheet_0.2.2.2.2.1) (Ψ := (fun r w1 => r = some (.int (mSm h9.toInt (xs (i + 1).toNatClampNeg) (xs (i + 2).toNatClampNeg) (xs (i + 3).toNatClampNeg) (xs (i + 4).toNatClampNeg) rg)) ∧ CQ G w1 6 16 (nSm h9.toInt (xs (i + 1).toNatClampNeg) (xs (i + 2).toNatClampNeg) (xs (i + 3).toNatClampNeg) (xs (i + 4).toNatClampNeg) rg hg))) (wa := wx') (rest := []) (As := [.int (xs (i + 1).toNatClampNeg), .int (xs (i + 2).toNatClampNeg), .int (xs (i + 3).toNatClampNeg), .int (xs (i + 4).toNatClampNeg)]) X k_L_56 (fun ad hW => ac_shm l G hW b2 rb x3) ⟨rfl, rfl⟩ hy d_lw_479 ⟨by decide, by decide⟩ ⟨hc, hs⟩ rfl rfl (Nat.le_of_ble_eq_true rfl) rfl (fun r wm' hz2 hy' hfm => ?_)
  obtain ⟨v2, rfl⟩ := (⟨_, hz2.1⟩ : ∃ v : Int32, r = some (Value.int v))
  obtain ⟨ev0, hM'⟩ := (⟨(some_int hz.1).trans ((sh_same rc9.1.2 re (cwx_room hx ra)).trans (some_int hz2.1).symm), RelH.set hR.h hfx (by decide) a2 ra hz.2 hz2.2 l2 l3 l4⟩ : v = v2 ∧ RelH G wx' wm')
  have hR' : RelQ G wx' wm' := RelQ.of (hR.m.keep hfx hfm (by decide)) (hR.a.keep hfx hfm (by decide)) (hR.d.keep hfx hfm (by decide)) (hR.c.keep hfx hfm (by decide)) (hR.x.keep hfx hfm (by decide)) (hR.b.keep hfx hfm (by decide)) (hM') (hR.t.keep hfx hfm (by decide)) (hR.k.keep hfx hfm (by decide))
  have ev : v.toInt = v2.toInt := congrArg Int32.toInt ev0
  refine z_pop X d_lw_482 rfl ?_
  refine z_goto X d_lw_483 (tgt := 2192) (by decide) ?_
  exact hK wx' wm' hx' hl' hy' hR'
theorem lc_7 (X : ZC p s m #[Value.ref b] meth c code 8 RL G (fun q : Nat => s.heap.size ≤ q) ret nm) (hX : va_X b L xs s s.heap) (hbl : b < s.heap.size) (hbA : ¬ s.heap.size ≤ b) (hi0 : 0 ≤ i.toInt) (hi1 : i.toInt + 10 ≤ (L : Int) ∧ L ≤ 5120) (hx : CWx G x wx) (hy : MWx G y wm) (hR : RelQ G wx wm) (hc : kc ≤ room_1.cells) (hs : ks ≤ room_1.slots) (hK : ∀ wx' wm', CWx G x wx' → wx'.length = wx.length → MWx G y wm' → RelQ G wx' wm' → Z p l e room_1 s m #[Value.ref b] below meth c 8 G (fun q : Nat => s.heap.size ≤ q) (lw_Z below #[Value.ref b] s) 2192 (lv5 b x y o i) [] (wx' ++ wm' ++ [(o, aJ G 1 f)]) kc ks) : Z p l e room_1 s m #[Value.ref b] below meth c 8 G (fun q : Nat => s.heap.size ≤ q) (lw_Z below #[Value.ref b] s) 486 (lv5 b x y o i) [] (wx ++ wm ++ [(o, aJ G 1 f)]) kc ks := by
  obtain ⟨f9, g9, hf9, hg9, hfg⟩ := id hR.c
  refine z_aload_n X d_lw_486 rfl 1 rfl ?_
  refine z_aload_n X d_lw_487 rfl 0 rfl ?_
  refine z_iload X d_lw_488 4 rfl ?_
  refine z_iconst X d_lw_490 (v := 1) (by decide) ?_
  refine z_iadd X d_lw_491 ?_
  refine z_sld X hX hbl hbA (lw_in hi0 hi1 (k := 1) (by decide) (by decide)) d_lw_492 (v := xs (i + 1).toNatClampNeg) rfl ?_
  refine z_aload_n X d_lw_493 rfl 0 rfl ?_
  refine z_iload X d_lw_494 4 rfl ?_
  refine z_iconst X d_lw_496 (v := 2) (by decide) ?_
  refine z_iadd X d_lw_497 ?_
  refine z_sld X hX hbl hbA (lw_in hi0 hi1 (k := 2) (by decide) (by decide)) d_lw_498 (v := xs (i + 2).toNatClampNeg) rfl ?_
  refine z_aload_n X d_lw_499 rfl 0 rfl ?_
  refine z_iload X d_lw_500 4 rfl ?_
  refine z_iconst X d_lw_502 (v := 3) (by decide) ?_
  refine z_iadd X d_lw_503 ?_
  refine z_sld X hX hbl hbA (lw_in hi0 hi1 (k := 3) (by decide) (by decide)) d_lw_504 (v := xs (i + 3).toNatClampNeg) rfl ?_
  rcases (by omega : (xs (i + 1).toNatClampNeg).toInt ≤ -1 ∨ 2 ≤ (xs (i + 1).toNatClampNeg).toInt ∨ (0 ≤ (xs (i + 1).toNatClampNeg).toInt ∧ (xs (i + 1).toNatClampNeg).toInt ≤ 1 ∧ ((xs (i + 2).toNatClampNeg).toInt ≤ -1 ∨ 2 ≤ (xs (i + 2).toNatClampNeg).toInt ∨ (0 ≤ (xs (i + 2).toNatClampNeg).toInt ∧ (xs (i + 2).toNatClampNeg).toInt ≤ 1 ∧ ((xs (i + 3).toNatClampNeg).toInt ≤ -10 ∨ 10 ≤ (xs (i + 3).toNatClampNeg).toInt ∨ (-9 ≤ (xs (i + 3).toNatClampNeg).toInt ∧ (xs (i + 3).toNatClampNeg).toInt ≤ 9)))))) with l0 | g0 | ⟨a0, b0, (l1 | g1 | ⟨a1, b1, (l2 | g2 | ⟨a2, b2⟩)⟩)⟩
  · skip
    rw [List.append_assoc]
    refine cx_callP (rest := []) (As := [.int (xs (i + 1).toNatClampNeg), .int (xs (i + 2).toNatClampNeg), .int (xs (i + 3).toNatClampNeg)]) (μ := (fun k => ((Value.ref x :: [.int (xs (i + 1).toNatClampNeg), .int (xs (i + 2).toNatClampNeg), .int (xs (i + 3).toNatClampNeg)])[k]?).getD .null)) X k_L_57 (ac_x_X10_cross_1 l G) (by decide) hx (fun ad w0 he _ => pre_mu (C := C_x_X10_cross_1) (ts := [(0, -2147483648, -1), tI0, tI0]) (As := [.int (xs (i + 1).toNatClampNeg), .int (xs (i + 2).toNatClampNeg), .int (xs (i + 3).toNatClampNeg)]) rfl rfl rfl rfl ⟨fun _ => vty_i (i32_lo _) (by omega), fun _ => vty_i0 _, fun _ => vty_i0 _, trivial⟩ ad w0 he) rfl d_lw_505 ⟨by decide, by decide⟩ ⟨hc, hs⟩ rfl rfl (by decide) rfl (fun ad r wx' hz hx' hl' => ?_)
    rw [← List.append_assoc]
    have hfx := pz_fx hz
    obtain ⟨v, -, rfl, v0, v1, -⟩ := pz_a hz rfl rfl rfl
    refine z_pop X d_lw_508 rfl ?_
    refine z_aload_n X d_lw_509 rfl 2 rfl ?_
    refine z_aload_n X d_lw_510 rfl 0 rfl ?_
    refine z_iload X d_lw_511 4 rfl ?_
    refine z_iconst X d_lw_513 (v := 1) (by decide) ?_
    refine z_iadd X d_lw_514 ?_
    refine z_sld X hX hbl hbA (lw_in hi0 hi1 (k := 1) (by decide) (by decide)) d_lw_515 (v := xs (i + 1).toNatClampNeg) rfl ?_
    refine z_aload_n X d_lw_516 rfl 0 rfl ?_
    refine z_iload X d_lw_517 4 rfl ?_
    refine z_iconst X d_lw_519 (v := 2) (by decide) ?_
    refine z_iadd X d_lw_520 ?_
    refine z_sld X hX hbl hbA (lw_in hi0 hi1 (k := 2) (by decide) (by decide)) d_lw_521 (v := xs (i + 2).toNatClampNeg) rfl ?_
    refine z_aload_n X d_lw_522 rfl 0 rfl ?_
    refine z_iload X d_lw_523 4 rfl ?_
    refine z_iconst X d_lw_525 (v := 3) (by decide) ?_
    refine z_iadd X d_lw_526 ?_
    refine z_sld X hX hbl hbA (lw_in hi0 hi1 (k := 3) (by decide) (by decide)) d_lw_527 (v := xs (i + 3).toNatClampNeg) rfl ?_
    refine mx_callP (wa := wx') (rest := []) (As := [.int (xs (i + 1).toNatClampNeg), .int (xs (i + 2).toNatClampNeg), .int (xs (i + 3).toNatClampNeg)]) (μ := (fun k => ((Value.ref y :: [.int (xs (i + 1).toNatClampNeg), .int (xs (i + 2).toNatClampNeg), .int (xs (i + 3).toNatClampNeg)])[k]?).getD .null)) X k_L_61 (ac_x_X11_cross_1 l G) hy (fun ad he => pre_mu (C := C_x_X11_cross_1) (ts := [(0, -2147483648, -1), tI0, tI0]) (As := [.int (xs (i + 1).toNatClampNeg), .int (xs (i + 2).toNatClampNeg), .int (xs (i + 3).toNatClampNeg)]) rfl rfl rfl rfl ⟨fun _ => vty_i (i32_lo _) (by omega), fun _ => vty_i0 _, fun _ => vty_i0 _, trivial⟩ ad wm he) rfl d_lw_528 ⟨by decide, by decide⟩ ⟨hc, hs⟩ rfl rfl (Nat.le_of_ble_eq_true rfl) rfl (fun ad2 r wm' hz2 hy' => ?_)
    have hfm := pz_fx hz2
    obtain ⟨v2, -, rfl, w0, w1, -⟩ := pz_a hz2 rfl rfl rfl
    have v0 : -1 ≤ v.toInt := v0
    have v1 : v.toInt ≤ -1 := v1
    have w0 : -1 ≤ v2.toInt := w0
    have w1 : v2.toInt ≤ -1 := w1
    have ev : v.toInt = v2.toInt := by omega
    have hR' : RelQ G wx' wm' := RelQ.of (hR.m.keep hfx hfm (by decide)) (hR.a.keep hfx hfm (by decide)) (hR.d.keep hfx hfm (by decide)) (hR.c.keep hfx hfm (by decide)) (hR.x.keep hfx hfm (by decide)) (hR.b.keep hfx hfm (by decide)) (hR.h.keep hfx hfm (by decide)) (hR.t.keep hfx hfm (by decide)) (hR.k.keep hfx hfm (by decide))
    refine z_pop X d_lw_531 rfl ?_
    refine z_goto X d_lw_532 (tgt := 2192) (by decide) ?_
    exact hK wx' wm' hx' hl' hy' hR'
  · skip
    rw [List.append_assoc]
    refine cx_callP (rest := []) (As := [.int (xs (i + 1).toNatClampNeg), .int (xs (i + 2).toNatClampNeg), .int (xs (i + 3).toNatClampNeg)]) (μ := (fun k => ((Value.ref x :: [.int (xs (i + 1).toNatClampNeg), .int (xs (i + 2).toNatClampNeg), .int (xs (i + 3).toNatClampNeg)])[k]?).getD .null)) X k_L_57 (ac_x_X10_cross_2 l G) (by decide) hx (fun ad w0 he _ => pre_mu (C := C_x_X10_cross_2) (ts := [(0, 2, 2147483647), tI0, tI0]) (As := [.int (xs (i + 1).toNatClampNeg), .int (xs (i + 2).toNatClampNeg), .int (xs (i + 3).toNatClampNeg)]) rfl rfl rfl rfl ⟨fun _ => vty_i (by omega) (i32_hi _), fun _ => vty_i0 _, fun _ => vty_i0 _, trivial⟩ ad w0 he) rfl d_lw_505 ⟨by decide, by decide⟩ ⟨hc, hs⟩ rfl rfl (by decide) rfl (fun ad r wx' hz hx' hl' => ?_)
    rw [← List.append_assoc]
    have hfx := pz_fx hz
    obtain ⟨v, -, rfl, v0, v1, -⟩ := pz_a hz rfl rfl rfl
    refine z_pop X d_lw_508 rfl ?_
    refine z_aload_n X d_lw_509 rfl 2 rfl ?_
    refine z_aload_n X d_lw_510 rfl 0 rfl ?_
    refine z_iload X d_lw_511 4 rfl ?_
    refine z_iconst X d_lw_513 (v := 1) (by decide) ?_
    refine z_iadd X d_lw_514 ?_
    refine z_sld X hX hbl hbA (lw_in hi0 hi1 (k := 1) (by decide) (by decide)) d_lw_515 (v := xs (i + 1).toNatClampNeg) rfl ?_
    refine z_aload_n X d_lw_516 rfl 0 rfl ?_
    refine z_iload X d_lw_517 4 rfl ?_
    refine z_iconst X d_lw_519 (v := 2) (by decide) ?_
    refine z_iadd X d_lw_520 ?_
    refine z_sld X hX hbl hbA (lw_in hi0 hi1 (k := 2) (by decide) (by decide)) d_lw_521 (v := xs (i + 2).toNatClampNeg) rfl ?_
    refine z_aload_n X d_lw_522 rfl 0 rfl ?_
    refine z_iload X d_lw_523 4 rfl ?_
    refine z_iconst X d_lw_525 (v := 3) (by decide) ?_
    refine z_iadd X d_lw_526 ?_
    refine z_sld X hX hbl hbA (lw_in hi0 hi1 (k := 3) (by decide) (by decide)) d_lw_527 (v := xs (i + 3).toNatClampNeg) rfl ?_
    refine mx_callP (wa := wx') (rest := []) (As := [.int (xs (i + 1).toNatClampNeg), .int (xs (i + 2).toNatClampNeg), .int (xs (i + 3).toNatClampNeg)]) (μ := (fun k => ((Value.ref y :: [.int (xs (i + 1).toNatClampNeg), .int (xs (i + 2).toNatClampNeg), .int (xs (i + 3).toNatClampNeg)])[k]?).getD .null)) X k_L_61 (ac_x_X11_cross_2 l G) hy (fun ad he => pre_mu (C := C_x_X11_cross_2) (ts := [(0, 2, 2147483647), tI0, tI0]) (As := [.int (xs (i + 1).toNatClampNeg), .int (xs (i + 2).toNatClampNeg), .int (xs (i + 3).toNatClampNeg)]) rfl rfl rfl rfl ⟨fun _ => vty_i (by omega) (i32_hi _), fun _ => vty_i0 _, fun _ => vty_i0 _, trivial⟩ ad wm he) rfl d_lw_528 ⟨by decide, by decide⟩ ⟨hc, hs⟩ rfl rfl (Nat.le_of_ble_eq_true rfl) rfl (fun ad2 r wm' hz2 hy' => ?_)
    have hfm := pz_fx hz2
    obtain ⟨v2, -, rfl, w0, w1, -⟩ := pz_a hz2 rfl rfl rfl
    have v0 : -1 ≤ v.toInt := v0
    have v1 : v.toInt ≤ -1 := v1
    have w0 : -1 ≤ v2.toInt := w0
    have w1 : v2.toInt ≤ -1 := w1
    have ev : v.toInt = v2.toInt := by omega
    have hR' : RelQ G wx' wm' := RelQ.of (hR.m.keep hfx hfm (by decide)) (hR.a.keep hfx hfm (by decide)) (hR.d.keep hfx hfm (by decide)) (hR.c.keep hfx hfm (by decide)) (hR.x.keep hfx hfm (by decide)) (hR.b.keep hfx hfm (by decide)) (hR.h.keep hfx hfm (by decide)) (hR.t.keep hfx hfm (by decide)) (hR.k.keep hfx hfm (by decide))
    refine z_pop X d_lw_531 rfl ?_
    refine z_goto X d_lw_532 (tgt := 2192) (by decide) ?_
    exact hK wx' wm' hx' hl' hy' hR'
  · skip
    rw [List.append_assoc]
    refine cx_callP (rest := []) (As := [.int (xs (i + 1).toNatClampNeg), .int (xs (i + 2).toNatClampNeg), .int (xs (i + 3).toNatClampNeg)]) (μ := (fun k => ((Value.ref x :: [.int (xs (i + 1).toNatClampNeg), .int (xs (i + 2).toNatClampNeg), .int (xs (i + 3).toNatClampNeg)])[k]?).getD .null)) X k_L_57 (ac_x_X10_cross_3 l G) (by decide) hx (fun ad w0 he _ => pre_mu (C := C_x_X10_cross_3) (ts := [(0, 0, 1), (0, -2147483648, -1), tI0]) (As := [.int (xs (i + 1).toNatClampNeg), .int (xs (i + 2).toNatClampNeg), .int (xs (i + 3).toNatClampNeg)]) rfl rfl rfl rfl ⟨fun _ => vty_i (by omega) (by omega), fun _ => vty_i (i32_lo _) (by omega), fun _ => vty_i0 _, trivial⟩ ad w0 he) rfl d_lw_505 ⟨by decide, by decide⟩ ⟨hc, hs⟩ rfl rfl (by decide) rfl (fun ad r wx' hz hx' hl' => ?_)
    rw [← List.append_assoc]
    have hfx := pz_fx hz
    obtain ⟨v, -, rfl, v0, v1, -⟩ := pz_a hz rfl rfl rfl
    refine z_pop X d_lw_508 rfl ?_
    refine z_aload_n X d_lw_509 rfl 2 rfl ?_
    refine z_aload_n X d_lw_510 rfl 0 rfl ?_
    refine z_iload X d_lw_511 4 rfl ?_
    refine z_iconst X d_lw_513 (v := 1) (by decide) ?_
    refine z_iadd X d_lw_514 ?_
    refine z_sld X hX hbl hbA (lw_in hi0 hi1 (k := 1) (by decide) (by decide)) d_lw_515 (v := xs (i + 1).toNatClampNeg) rfl ?_
    refine z_aload_n X d_lw_516 rfl 0 rfl ?_
    refine z_iload X d_lw_517 4 rfl ?_
    refine z_iconst X d_lw_519 (v := 2) (by decide) ?_
    refine z_iadd X d_lw_520 ?_
    refine z_sld X hX hbl hbA (lw_in hi0 hi1 (k := 2) (by decide) (by decide)) d_lw_521 (v := xs (i + 2).toNatClampNeg) rfl ?_
    refine z_aload_n X d_lw_522 rfl 0 rfl ?_
    refine z_iload X d_lw_523 4 rfl ?_
    refine z_iconst X d_lw_525 (v := 3) (by decide) ?_
    refine z_iadd X d_lw_526 ?_
    refine z_sld X hX hbl hbA (lw_in hi0 hi1 (k := 3) (by decide) (by decide)) d_lw_527 (v := xs (i + 3).toNatClampNeg) rfl ?_
    refine mx_callP (wa := wx') (rest := []) (As := [.int (xs (i + 1).toNatClampNeg), .int (xs (i + 2).toNatClampNeg), .int (xs (i + 3).toNatClampNeg)]) (μ := (fun k => ((Value.ref y :: [.int (xs (i + 1).toNatClampNeg), .int (xs (i + 2).toNatClampNeg), .int (xs (i + 3).toNatClampNeg)])[k]?).getD .null)) X k_L_61 (ac_x_X11_cross_3 l G) hy (fun ad he => pre_mu (C := C_x_X11_cross_3) (ts := [(0, 0, 1), (0, -2147483648, -1), tI0]) (As := [.int (xs (i + 1).toNatClampNeg), .int (xs (i + 2).toNatClampNeg), .int (xs (i + 3).toNatClampNeg)]) rfl rfl rfl rfl ⟨fun _ => vty_i (by omega) (by omega), fun _ => vty_i (i32_lo _) (by omega), fun _ => vty_i0 _, trivial⟩ ad wm he) rfl d_lw_528 ⟨by decide, by decide⟩ ⟨hc, hs⟩ rfl rfl (Nat.le_of_ble_eq_true rfl) rfl (fun ad2 r wm' hz2 hy' => ?_)
    have hfm := pz_fx hz2
    obtain ⟨v2, -, rfl, w0, w1, -⟩ := pz_a hz2 rfl rfl rfl
    have v0 : -1 ≤ v.toInt := v0
    have v1 : v.toInt ≤ -1 := v1
    have w0 : -1 ≤ v2.toInt := w0
    have w1 : v2.toInt ≤ -1 := w1
    have ev : v.toInt = v2.toInt := by omega
    have hR' : RelQ G wx' wm' := RelQ.of (hR.m.keep hfx hfm (by decide)) (hR.a.keep hfx hfm (by decide)) (hR.d.keep hfx hfm (by decide)) (hR.c.keep hfx hfm (by decide)) (hR.x.keep hfx hfm (by decide)) (hR.b.keep hfx hfm (by decide)) (hR.h.keep hfx hfm (by decide)) (hR.t.keep hfx hfm (by decide)) (hR.k.keep hfx hfm (by decide))
    refine z_pop X d_lw_531 rfl ?_
    refine z_goto X d_lw_532 (tgt := 2192) (by decide) ?_
    exact hK wx' wm' hx' hl' hy' hR'
  · skip
    rw [List.append_assoc]
    refine cx_callP (rest := []) (As := [.int (xs (i + 1).toNatClampNeg), .int (xs (i + 2).toNatClampNeg), .int (xs (i + 3).toNatClampNeg)]) (μ := (fun k => ((Value.ref x :: [.int (xs (i + 1).toNatClampNeg), .int (xs (i + 2).toNatClampNeg), .int (xs (i + 3).toNatClampNeg)])[k]?).getD .null)) X k_L_57 (ac_x_X10_cross_4 l G) (by decide) hx (fun ad w0 he _ => pre_mu (C := C_x_X10_cross_4) (ts := [(0, 0, 1), (0, 2, 2147483647), tI0]) (As := [.int (xs (i + 1).toNatClampNeg), .int (xs (i + 2).toNatClampNeg), .int (xs (i + 3).toNatClampNeg)]) rfl rfl rfl rfl ⟨fun _ => vty_i (by omega) (by omega), fun _ => vty_i (by omega) (i32_hi _), fun _ => vty_i0 _, trivial⟩ ad w0 he) rfl d_lw_505 ⟨by decide, by decide⟩ ⟨hc, hs⟩ rfl rfl (by decide) rfl (fun ad r wx' hz hx' hl' => ?_)
    rw [← List.append_assoc]
    have hfx := pz_fx hz
    obtain ⟨v, -, rfl, v0, v1, -⟩ := pz_a hz rfl rfl rfl
    refine z_pop X d_lw_508 rfl ?_
    refine z_aload_n X d_lw_509 rfl 2 rfl ?_
    refine z_aload_n X d_lw_510 rfl 0 rfl ?_
    refine z_iload X d_lw_511 4 rfl ?_
    refine z_iconst X d_lw_513 (v := 1) (by decide) ?_
    refine z_iadd X d_lw_514 ?_
    refine z_sld X hX hbl hbA (lw_in hi0 hi1 (k := 1) (by decide) (by decide)) d_lw_515 (v := xs (i + 1).toNatClampNeg) rfl ?_
    refine z_aload_n X d_lw_516 rfl 0 rfl ?_
    refine z_iload X d_lw_517 4 rfl ?_
    refine z_iconst X d_lw_519 (v := 2) (by decide) ?_
    refine z_iadd X d_lw_520 ?_
    refine z_sld X hX hbl hbA (lw_in hi0 hi1 (k := 2) (by decide) (by decide)) d_lw_521 (v := xs (i + 2).toNatClampNeg) rfl ?_
    refine z_aload_n X d_lw_522 rfl 0 rfl ?_
    refine z_iload X d_lw_523 4 rfl ?_
    refine z_iconst X d_lw_525 (v := 3) (by decide) ?_
    refine z_iadd X d_lw_526 ?_
    refine z_sld X hX hbl hbA (lw_in hi0 hi1 (k := 3) (by decide) (by decide)) d_lw_527 (v := xs (i + 3).toNatClampNeg) rfl ?_
    refine mx_callP (wa := wx') (rest := []) (As := [.int (xs (i + 1).toNatClampNeg), .int (xs (i + 2).toNatClampNeg), .int (xs (i + 3).toNatClampNeg)]) (μ := (fun k => ((Value.ref y :: [.int (xs (i + 1).toNatClampNeg), .int (xs (i + 2).toNatClampNeg), .int (xs (i + 3).toNatClampNeg)])[k]?).getD .null)) X k_L_61 (ac_x_X11_cross_4 l G) hy (fun ad he => pre_mu (C := C_x_X11_cross_4) (ts := [(0, 0, 1), (0, 2, 2147483647), tI0]) (As := [.int (xs (i + 1).toNatClampNeg), .int (xs (i + 2).toNatClampNeg), .int (xs (i + 3).toNatClampNeg)]) rfl rfl rfl rfl ⟨fun _ => vty_i (by omega) (by omega), fun _ => vty_i (by omega) (i32_hi _), fun _ => vty_i0 _, trivial⟩ ad wm he) rfl d_lw_528 ⟨by decide, by decide⟩ ⟨hc, hs⟩ rfl rfl (Nat.le_of_ble_eq_true rfl) rfl (fun ad2 r wm' hz2 hy' => ?_)
    have hfm := pz_fx hz2
    obtain ⟨v2, -, rfl, w0, w1, -⟩ := pz_a hz2 rfl rfl rfl
    have v0 : -1 ≤ v.toInt := v0
    have v1 : v.toInt ≤ -1 := v1
    have w0 : -1 ≤ v2.toInt := w0
    have w1 : v2.toInt ≤ -1 := w1
    have ev : v.toInt = v2.toInt := by omega
    have hR' : RelQ G wx' wm' := RelQ.of (hR.m.keep hfx hfm (by decide)) (hR.a.keep hfx hfm (by decide)) (hR.d.keep hfx hfm (by decide)) (hR.c.keep hfx hfm (by decide)) (hR.x.keep hfx hfm (by decide)) (hR.b.keep hfx hfm (by decide)) (hR.h.keep hfx hfm (by decide)) (hR.t.keep hfx hfm (by decide)) (hR.k.keep hfx hfm (by decide))
    refine z_pop X d_lw_531 rfl ?_
    refine z_goto X d_lw_532 (tgt := 2192) (by decide) ?_
    exact hK wx' wm' hx' hl' hy' hR'
  · skip
    rw [List.append_assoc]
    refine cx_callP (rest := []) (As := [.int (xs (i + 1).toNatClampNeg), .int (xs (i + 2).toNatClampNeg), .int (xs (i + 3).toNatClampNeg)]) (μ := (fun k => ((Value.ref x :: [.int (xs (i + 1).toNatClampNeg), .int (xs (i + 2).toNatClampNeg), .int (xs (i + 3).toNatClampNeg)])[k]?).getD .null)) X k_L_57 (ac_x_X10_cross_5 l G) (by decide) hx (fun ad w0 he _ => pre_mu (C := C_x_X10_cross_5) (ts := [(0, 0, 1), (0, 0, 1), (0, -2147483648, -10)]) (As := [.int (xs (i + 1).toNatClampNeg), .int (xs (i + 2).toNatClampNeg), .int (xs (i + 3).toNatClampNeg)]) rfl rfl rfl rfl ⟨fun _ => vty_i (by omega) (by omega), fun _ => vty_i (by omega) (by omega), fun _ => vty_i (i32_lo _) (by omega), trivial⟩ ad w0 he) rfl d_lw_505 ⟨by decide, by decide⟩ ⟨hc, hs⟩ rfl rfl (by decide) rfl (fun ad r wx' hz hx' hl' => ?_)
    rw [← List.append_assoc]
    have hfx := pz_fx hz
    obtain ⟨v, -, rfl, v0, v1, -⟩ := pz_a hz rfl rfl rfl
    refine z_pop X d_lw_508 rfl ?_
    refine z_aload_n X d_lw_509 rfl 2 rfl ?_
    refine z_aload_n X d_lw_510 rfl 0 rfl ?_
    refine z_iload X d_lw_511 4 rfl ?_
    refine z_iconst X d_lw_513 (v := 1) (by decide) ?_
    refine z_iadd X d_lw_514 ?_
    refine z_sld X hX hbl hbA (lw_in hi0 hi1 (k := 1) (by decide) (by decide)) d_lw_515 (v := xs (i + 1).toNatClampNeg) rfl ?_
    refine z_aload_n X d_lw_516 rfl 0 rfl ?_
    refine z_iload X d_lw_517 4 rfl ?_
    refine z_iconst X d_lw_519 (v := 2) (by decide) ?_
    refine z_iadd X d_lw_520 ?_
    refine z_sld X hX hbl hbA (lw_in hi0 hi1 (k := 2) (by decide) (by decide)) d_lw_521 (v := xs (i + 2).toNatClampNeg) rfl ?_
    refine z_aload_n X d_lw_522 rfl 0 rfl ?_
    refine z_iload X d_lw_523 4 rfl ?_
    refine z_iconst X d_lw_525 (v := 3) (by decide) ?_
    refine z_iadd X d_lw_526 ?_
    refine z_sld X hX hbl hbA (lw_in hi0 hi1 (k := 3) (by decide) (by decide)) d_lw_527 (v := xs (i + 3).toNatClampNeg) rfl ?_
    refine mx_callP (wa := wx') (rest := []) (As := [.int (xs (i + 1).toNatClampNeg), .int (xs (i + 2).toNatClampNeg), .int (xs (i + 3).toNatClampNeg)]) (μ := (fun k => ((Value.ref y :: [.int (xs (i + 1).toNatClampNeg), .int (xs (i + 2).toNatClampNeg), .int (xs (i + 3).toNatClampNeg)])[k]?).getD .null)) X k_L_61 (ac_x_X11_cross_5 l G) hy (fun ad he => pre_mu (C := C_x_X11_cross_5) (ts := [(0, 0, 1), (0, 0, 1), (0, -2147483648, -10)]) (As := [.int (xs (i + 1).toNatClampNeg), .int (xs (i + 2).toNatClampNeg), .int (xs (i + 3).toNatClampNeg)]) rfl rfl rfl rfl ⟨fun _ => vty_i (by omega) (by omega), fun _ => vty_i (by omega) (by omega), fun _ => vty_i (i32_lo _) (by omega), trivial⟩ ad wm he) rfl d_lw_528 ⟨by decide, by decide⟩ ⟨hc, hs⟩ rfl rfl (Nat.le_of_ble_eq_true rfl) rfl (fun ad2 r wm' hz2 hy' => ?_)
    have hfm := pz_fx hz2
    obtain ⟨v2, -, rfl, w0, w1, -⟩ := pz_a hz2 rfl rfl rfl
    have v0 : -1 ≤ v.toInt := v0
    have v1 : v.toInt ≤ -1 := v1
    have w0 : -1 ≤ v2.toInt := w0
    have w1 : v2.toInt ≤ -1 := w1
    have ev : v.toInt = v2.toInt := by omega
    have hR' : RelQ G wx' wm' := RelQ.of (hR.m.keep hfx hfm (by decide)) (hR.a.keep hfx hfm (by decide)) (hR.d.keep hfx hfm (by decide)) (hR.c.keep hfx hfm (by decide)) (hR.x.keep hfx hfm (by decide)) (hR.b.keep hfx hfm (by decide)) (hR.h.keep hfx hfm (by decide)) (hR.t.keep hfx hfm (by decide)) (hR.k.keep hfx hfm (by decide))
    refine z_pop X d_lw_531 rfl ?_
    refine z_goto X d_lw_532 (tgt := 2192) (by decide) ?_
    exact hK wx' wm' hx' hl' hy' hR'
  · skip
    rw [List.append_assoc]
    refine cx_callP (rest := []) (As := [.int (xs (i + 1).toNatClampNeg), .int (xs (i + 2).toNatClampNeg), .int (xs (i + 3).toNatClampNeg)]) (μ := (fun k => ((Value.ref x :: [.int (xs (i + 1).toNatClampNeg), .int (xs (i + 2).toNatClampNeg), .int (xs (i + 3).toNatClampNeg)])[k]?).getD .null)) X k_L_57 (ac_x_X10_cross_6 l G) (by decide) hx (fun ad w0 he _ => pre_mu (C := C_x_X10_cross_6) (ts := [(0, 0, 1), (0, 0, 1), (0, 10, 2147483647)]) (As := [.int (xs (i + 1).toNatClampNeg), .int (xs (i + 2).toNatClampNeg), .int (xs (i + 3).toNatClampNeg)]) rfl rfl rfl rfl ⟨fun _ => vty_i (by omega) (by omega), fun _ => vty_i (by omega) (by omega), fun _ => vty_i (by omega) (i32_hi _), trivial⟩ ad w0 he) rfl d_lw_505 ⟨by decide, by decide⟩ ⟨hc, hs⟩ rfl rfl (by decide) rfl (fun ad r wx' hz hx' hl' => ?_)
    rw [← List.append_assoc]
    have hfx := pz_fx hz
    obtain ⟨v, -, rfl, v0, v1, -⟩ := pz_a hz rfl rfl rfl
    refine z_pop X d_lw_508 rfl ?_
    refine z_aload_n X d_lw_509 rfl 2 rfl ?_
    refine z_aload_n X d_lw_510 rfl 0 rfl ?_
    refine z_iload X d_lw_511 4 rfl ?_
    refine z_iconst X d_lw_513 (v := 1) (by decide) ?_
    refine z_iadd X d_lw_514 ?_
    refine z_sld X hX hbl hbA (lw_in hi0 hi1 (k := 1) (by decide) (by decide)) d_lw_515 (v := xs (i + 1).toNatClampNeg) rfl ?_
    refine z_aload_n X d_lw_516 rfl 0 rfl ?_
    refine z_iload X d_lw_517 4 rfl ?_
    refine z_iconst X d_lw_519 (v := 2) (by decide) ?_
    refine z_iadd X d_lw_520 ?_
    refine z_sld X hX hbl hbA (lw_in hi0 hi1 (k := 2) (by decide) (by decide)) d_lw_521 (v := xs (i + 2).toNatClampNeg) rfl ?_
    refine z_aload_n X d_lw_522 rfl 0 rfl ?_
    refine z_iload X d_lw_523 4 rfl ?_
    refine z_iconst X d_lw_525 (v := 3) (by decide) ?_
    refine z_iadd X d_lw_526 ?_
    refine z_sld X hX hbl hbA (lw_in hi0 hi1 (k := 3) (by decide) (by decide)) d_lw_527 (v := xs (i + 3).toNatClampNeg) rfl ?_
    refine mx_callP (wa := wx') (rest := []) (As := [.int (xs (i + 1).toNatClampNeg), .int (xs (i + 2).toNatClampNeg), .int (xs (i + 3).toNatClampNeg)]) (μ := (fun k => ((Value.ref y :: [.int (xs (i + 1).toNatClampNeg), .int (xs (i + 2).toNatClampNeg), .int (xs (i + 3).toNatClampNeg)])[k]?).getD .null)) X k_L_61 (ac_x_X11_cross_6 l G) hy (fun ad he => pre_mu (C := C_x_X11_cross_6) (ts := [(0, 0, 1), (0, 0, 1), (0, 10, 2147483647)]) (As := [.int (xs (i + 1).toNatClampNeg), .int (xs (i + 2).toNatClampNeg), .int (xs (i + 3).toNatClampNeg)]) rfl rfl rfl rfl ⟨fun _ => vty_i (by omega) (by omega), fun _ => vty_i (by omega) (by omega), fun _ => vty_i (by omega) (i32_hi _), trivial⟩ ad wm he) rfl d_lw_528 ⟨by decide, by decide⟩ ⟨hc, hs⟩ rfl rfl (Nat.le_of_ble_eq_true rfl) rfl (fun ad2 r wm' hz2 hy' => ?_)
    have hfm := pz_fx hz2
    obtain ⟨v2, -, rfl, w0, w1, -⟩ := pz_a hz2 rfl rfl rfl
    have v0 : -1 ≤ v.toInt := v0
    have v1 : v.toInt ≤ -1 := v1
    have w0 : -1 ≤ v2.toInt := w0
    have w1 : v2.toInt ≤ -1 := w1
    have ev : v.toInt = v2.toInt := by omega
    have hR' : RelQ G wx' wm' := RelQ.of (hR.m.keep hfx hfm (by decide)) (hR.a.keep hfx hfm (by decide)) (hR.d.keep hfx hfm (by decide)) (hR.c.keep hfx hfm (by decide)) (hR.x.keep hfx hfm (by decide)) (hR.b.keep hfx hfm (by decide)) (hR.h.keep hfx hfm (by decide)) (hR.t.keep hfx hfm (by decide)) (hR.k.keep hfx hfm (by decide))
    refine z_pop X d_lw_531 rfl ?_
    refine z_goto X d_lw_532 (tgt := 2192) (by decide) ?_
    exact hK wx' wm' hx' hl' hy' hR'
  · skip
    have hb : xs (i + 1).toNatClampNeg = 0 ∨ xs (i + 1).toNatClampNeg = 1 := (by omega : (xs (i + 1).toNatClampNeg).toInt = 0 ∨ (xs (i + 1).toNatClampNeg).toInt = 1).imp (fun h => Int32.toInt_inj.mp h) (fun h => Int32.toInt_inj.mp h)
    have hq : xs (i + 2).toNatClampNeg = 0 ∨ xs (i + 2).toNatClampNeg = 1 := (by omega : (xs (i + 2).toNatClampNeg).toInt = 0 ∨ (xs (i + 2).toNatClampNeg).toInt = 1).imp (fun h => Int32.toInt_inj.mp h) (fun h => Int32.toInt_inj.mp h)
    have hj : (2 * xs (i + 1).toNatClampNeg + xs (i + 2).toNatClampNeg).toNatClampNeg < 4 := by rcases hb with h | h <;> rcases hq with h2 | h2 <;> rw [h, h2] <;> decide
    rw [List.append_assoc]
    refine cx_callG (rm := rm_cxr) (m0 := [(103, 999)]) (Ψ := (fun r w1 => r = some (.int (f9 (2 * xs (i + 1).toNatClampNeg + xs (i + 2).toNatClampNeg).toNatClampNeg)) ∧ cget w1 103 0 = some (.inr (cyI G, 4, .inl (upd f9 (2 * xs (i + 1).toNatClampNeg + xs (i + 2).toNatClampNeg).toNatClampNeg (xs (i + 3).toNatClampNeg)))))) (rest := []) (As := [.int (xs (i + 1).toNatClampNeg), .int (xs (i + 2).toNatClampNeg), .int (xs (i + 3).toNatClampNeg)]) X k_L_57 (fun ad w0 hW hag => Ct.weak (ac_cxr l G (xs (i + 1).toNatClampNeg) (xs (i + 2).toNatClampNeg) (xs (i + 3).toNatClampNeg) hW ((hag 103 0 (by decide)).trans hf9) hb hq (by omega) (by omega)) (fun r w1 h => ⟨h.2.1, h.2.2.1, h.1, h.2.2.2⟩)) ⟨rfl, rfl⟩ (by decide) (fun r w1 wc hl h => ⟨h.1, by rw [← h.2]; unfold cget; rw [List.getElem?_append_left (by omega)]⟩) hx d_lw_505 ⟨by decide, by decide⟩ ⟨hc, hs⟩ rfl rfl (by decide) rfl (fun r wx' hz hx' hl' hfx => ?_)
    rw [← List.append_assoc]
    obtain ⟨rfl, hc1⟩ := hz
    refine z_pop X d_lw_508 rfl ?_
    refine z_aload_n X d_lw_509 rfl 2 rfl ?_
    refine z_aload_n X d_lw_510 rfl 0 rfl ?_
    refine z_iload X d_lw_511 4 rfl ?_
    refine z_iconst X d_lw_513 (v := 1) (by decide) ?_
    refine z_iadd X d_lw_514 ?_
    refine z_sld X hX hbl hbA (lw_in hi0 hi1 (k := 1) (by decide) (by decide)) d_lw_515 (v := xs (i + 1).toNatClampNeg) rfl ?_
    refine z_aload_n X d_lw_516 rfl 0 rfl ?_
    refine z_iload X d_lw_517 4 rfl ?_
    refine z_iconst X d_lw_519 (v := 2) (by decide) ?_
    refine z_iadd X d_lw_520 ?_
    refine z_sld X hX hbl hbA (lw_in hi0 hi1 (k := 2) (by decide) (by decide)) d_lw_521 (v := xs (i + 2).toNatClampNeg) rfl ?_
    refine z_aload_n X d_lw_522 rfl 0 rfl ?_
    refine z_iload X d_lw_523 4 rfl ?_
    refine z_iconst X d_lw_525 (v := 3) (by decide) ?_
    refine z_iadd X d_lw_526 ?_
    refine z_sld X hX hbl hbA (lw_in hi0 hi1 (k := 3) (by decide) (by decide)) d_lw_527 (v := xs (i + 3).toNatClampNeg) rfl ?_
    refine mx_callG (rm := rm_cmr) (m0 := [(15, 999), (0, 0)]) (Ψ := (fun r w1 => r = some (.int (g9 (2 * xs (i + 1).toNatClampNeg + xs (i + 2).toNatClampNeg).toNatClampNeg)) ∧ cget w1 15 0 = some (.inr (cyI G, 4, .inl (upd g9 (2 * xs (i + 1).toNatClampNeg + xs (i + 2).toNatClampNeg).toNatClampNeg (xs (i + 3).toNatClampNeg)))))) (wa := wx') (rest := []) (As := [.int (xs (i + 1).toNatClampNeg), .int (xs (i + 2).toNatClampNeg), .int (xs (i + 3).toNatClampNeg)]) X k_L_61 (fun ad hW => Ct.weak (ac_cmr l G (xs (i + 1).toNatClampNeg) (xs (i + 2).toNatClampNeg) (xs (i + 3).toNatClampNeg) hW hg9 hb hq (by omega) (by omega)) (fun r w1 h => ⟨h.2.1, h.2.2.1, h.1, h.2.2.2⟩)) ⟨rfl, rfl⟩ hy d_lw_528 ⟨by decide, by decide⟩ ⟨hc, hs⟩ rfl rfl (Nat.le_of_ble_eq_true rfl) rfl (fun r wm' hz hy' hfm => ?_)
    obtain ⟨rfl, hc2⟩ := hz
    have ev : (f9 (2 * xs (i + 1).toNatClampNeg + xs (i + 2).toNatClampNeg).toNatClampNeg).toInt = (g9 (2 * xs (i + 1).toNatClampNeg + xs (i + 2).toNatClampNeg).toNatClampNeg).toInt := congrArg Int32.toInt (hfg _ hj)
    have hC' : RelC G wx' wm' := ⟨_, _, hc1, hc2, fun k hk => by unfold upd; rw [hfg k hk]⟩
    have hR' : RelQ G wx' wm' := RelQ.of (hR.m.keep hfx hfm (by decide)) (hR.a.keep hfx hfm (by decide)) (hR.d.keep hfx hfm (by decide)) (hC') (hR.x.keep hfx hfm (by decide)) (hR.b.keep hfx hfm (by decide)) (hR.h.keep hfx hfm (by decide)) (hR.t.keep hfx hfm (by decide)) (hR.k.keep hfx hfm (by decide))
    refine z_pop X d_lw_531 rfl ?_
    refine z_goto X d_lw_532 (tgt := 2192) (by decide) ?_
    exact hK wx' wm' hx' hl' hy' hR'
theorem lc_8 (X : ZC p s m #[Value.ref b] meth c code 8 RL G (fun q : Nat => s.heap.size ≤ q) ret nm) (hX : va_X b L xs s s.heap) (hbl : b < s.heap.size) (hbA : ¬ s.heap.size ≤ b) (hi0 : 0 ≤ i.toInt) (hi1 : i.toInt + 10 ≤ (L : Int) ∧ L ≤ 5120) (hx : CWx G x wx) (hy : MWx G y wm) (hR : RelQ G wx wm) (hc : kc ≤ room_1.cells) (hs : ks ≤ room_1.slots) (hK : ∀ wx' wm', CWx G x wx' → wx'.length = wx.length → MWx G y wm' → RelQ G wx' wm' → Z p l e room_1 s m #[Value.ref b] below meth c 8 G (fun q : Nat => s.heap.size ≤ q) (lw_Z below #[Value.ref b] s) 2192 (lv5 b x y o i) [] (wx' ++ wm' ++ [(o, aJ G 1 f)]) kc ks) : Z p l e room_1 s m #[Value.ref b] below meth c 8 G (fun q : Nat => s.heap.size ≤ q) (lw_Z below #[Value.ref b] s) 535 (lv5 b x y o i) [] (wx ++ wm ++ [(o, aJ G 1 f)]) kc ks := by
  refine z_aload_n X d_lw_535 rfl 1 rfl ?_
  refine z_aload_n X d_lw_536 rfl 0 rfl ?_
  refine z_iload X d_lw_537 4 rfl ?_
  refine z_iconst X d_lw_539 (v := 1) (by decide) ?_
  refine z_iadd X d_lw_540 ?_
  refine z_sld X hX hbl hbA (lw_in hi0 hi1 (k := 1) (by decide) (by decide)) d_lw_541 (v := xs (i + 1).toNatClampNeg) rfl ?_
  refine z_aload_n X d_lw_542 rfl 0 rfl ?_
  refine z_iload X d_lw_543 4 rfl ?_
  refine z_iconst X d_lw_545 (v := 2) (by decide) ?_
  refine z_iadd X d_lw_546 ?_
  refine z_sld X hX hbl hbA (lw_in hi0 hi1 (k := 2) (by decide) (by decide)) d_lw_547 (v := xs (i + 2).toNatClampNeg) rfl ?_
  refine z_aload_n X d_lw_548 rfl 0 rfl ?_
  refine z_iload X d_lw_549 4 rfl ?_
  refine z_iconst X d_lw_551 (v := 3) (by decide) ?_
  refine z_iadd X d_lw_552 ?_
  refine z_sld X hX hbl hbA (lw_in hi0 hi1 (k := 3) (by decide) (by decide)) d_lw_553 (v := xs (i + 3).toNatClampNeg) rfl ?_
  rw [List.append_assoc]
  refine cx_callF (k := 0) (rest := []) (As := [.int (xs (i + 1).toNatClampNeg), .int (xs (i + 2).toNatClampNeg), .int (xs (i + 3).toNatClampNeg)]) (μ := (fun k => ((Value.ref x :: [.int (xs (i + 1).toNatClampNeg), .int (xs (i + 2).toNatClampNeg), .int (xs (i + 3).toNatClampNeg)])[k]?).getD .null)) X k_L_62 (ac_X10_truly_0 l G) (by decide) (by decide) (by decide) hx (fun ad w0 he => pre_mu (C := C_X10_truly_0) (ts := [tI0, tI0, tI0]) (As := [.int (xs (i + 1).toNatClampNeg), .int (xs (i + 2).toNatClampNeg), .int (xs (i + 3).toNatClampNeg)]) rfl rfl rfl rfl ⟨fun _ => vty_i0 _, fun _ => vty_i0 _, fun _ => vty_i0 _, trivial⟩ ad w0 he) rfl d_lw_554 ⟨by decide, by decide⟩ ⟨hc, hs⟩ rfl rfl (by decide) rfl (fun r wx' hr hx' hl' hfx => ?_)
  rw [← List.append_assoc]
  rcases hr with ⟨h, -⟩ | ⟨-, v, rfl⟩ | ⟨h, -⟩
  all_goals first | (exact absurd h (by decide)) | skip
  refine z_pop X d_lw_557 rfl ?_
  refine z_aload_n X d_lw_558 rfl 2 rfl ?_
  refine z_aload_n X d_lw_559 rfl 0 rfl ?_
  refine z_iload X d_lw_560 4 rfl ?_
  refine z_iconst X d_lw_562 (v := 1) (by decide) ?_
  refine z_iadd X d_lw_563 ?_
  refine z_sld X hX hbl hbA (lw_in hi0 hi1 (k := 1) (by decide) (by decide)) d_lw_564 (v := xs (i + 1).toNatClampNeg) rfl ?_
  refine z_aload_n X d_lw_565 rfl 0 rfl ?_
  refine z_iload X d_lw_566 4 rfl ?_
  refine z_iconst X d_lw_568 (v := 2) (by decide) ?_
  refine z_iadd X d_lw_569 ?_
  refine z_sld X hX hbl hbA (lw_in hi0 hi1 (k := 2) (by decide) (by decide)) d_lw_570 (v := xs (i + 2).toNatClampNeg) rfl ?_
  refine z_aload_n X d_lw_571 rfl 0 rfl ?_
  refine z_iload X d_lw_572 4 rfl ?_
  refine z_iconst X d_lw_574 (v := 3) (by decide) ?_
  refine z_iadd X d_lw_575 ?_
  refine z_sld X hX hbl hbA (lw_in hi0 hi1 (k := 3) (by decide) (by decide)) d_lw_576 (v := xs (i + 3).toNatClampNeg) rfl ?_
  refine mx_callF (k := 0) (wa := wx') (rest := []) (As := [.int (xs (i + 1).toNatClampNeg), .int (xs (i + 2).toNatClampNeg), .int (xs (i + 3).toNatClampNeg)]) (μ := (fun k => ((Value.ref y :: [.int (xs (i + 1).toNatClampNeg), .int (xs (i + 2).toNatClampNeg), .int (xs (i + 3).toNatClampNeg)])[k]?).getD .null)) X k_L_66 (ac_X11_truly_0 l G) (by decide) (by decide) hy (fun ad w0 he => pre_mu (C := C_X11_truly_0) (ts := [tI0, tI0, tI0]) (As := [.int (xs (i + 1).toNatClampNeg), .int (xs (i + 2).toNatClampNeg), .int (xs (i + 3).toNatClampNeg)]) rfl rfl rfl rfl ⟨fun _ => vty_i0 _, fun _ => vty_i0 _, fun _ => vty_i0 _, trivial⟩ ad w0 he) rfl d_lw_577 ⟨by decide, by decide⟩ ⟨hc, hs⟩ rfl rfl (Nat.le_of_ble_eq_true rfl) rfl (fun r wm' hr hy' hfm => ?_)
  rcases hr with ⟨h, -⟩ | ⟨-, v, rfl⟩ | ⟨h, -⟩
  all_goals first | (exact absurd h (by decide)) | skip
  refine z_pop X d_lw_580 rfl ?_
  refine z_goto X d_lw_581 (tgt := 2192) (by decide) ?_
  exact hK wx' wm' hx' hl' hy' (RelQ.of (hR.m.keep hfx hfm (by decide)) (hR.a.keep hfx hfm (by decide)) (hR.d.keep hfx hfm (by decide)) (hR.c.keep hfx hfm (by decide)) (hR.x.keep hfx hfm (by decide)) (hR.b.keep hfx hfm (by decide)) (hR.h.keep hfx hfm (by decide)) (hR.t.keep hfx hfm (by decide)) (hR.k.keep hfx hfm (by decide)))
theorem lc_9 (X : ZC p s m #[Value.ref b] meth c code 8 RL G (fun q : Nat => s.heap.size ≤ q) ret nm) (hX : va_X b L xs s s.heap) (hbl : b < s.heap.size) (hbA : ¬ s.heap.size ≤ b) (hi0 : 0 ≤ i.toInt) (hi1 : i.toInt + 10 ≤ (L : Int) ∧ L ≤ 5120) (hx : CWx G x wx) (hy : MWx G y wm) (hR : RelQ G wx wm) (hc : kc ≤ room_1.cells) (hs : ks ≤ room_1.slots) (hK : ∀ wx' wm', CWx G x wx' → wx'.length = wx.length → MWx G y wm' → RelQ G wx' wm' → Z p l e room_1 s m #[Value.ref b] below meth c 8 G (fun q : Nat => s.heap.size ≤ q) (lw_Z below #[Value.ref b] s) 2192 (lv5 b x y o i) [] (wx' ++ wm' ++ [(o, aJ G 1 f)]) kc ks) : Z p l e room_1 s m #[Value.ref b] below meth c 8 G (fun q : Nat => s.heap.size ≤ q) (lw_Z below #[Value.ref b] s) 584 (lv5 b x y o i) [] (wx ++ wm ++ [(o, aJ G 1 f)]) kc ks := by
  obtain ⟨n, h9, s9, c9, f9, g9, ⟨n0, n1⟩, rc9, e9, ⟨hn1, hn2⟩, ⟨a2, b2⟩, ⟨a3, b3⟩, ⟨a4, b4⟩, a5, b5⟩ := id hR.m
  refine z_aload_n X d_lw_584 rfl 1 rfl ?_
  refine z_aload_n X d_lw_585 rfl 0 rfl ?_
  refine z_iload X d_lw_586 4 rfl ?_
  refine z_iconst X d_lw_588 (v := 1) (by decide) ?_
  refine z_iadd X d_lw_589 ?_
  refine z_sld X hX hbl hbA (lw_in hi0 hi1 (k := 1) (by decide) (by decide)) d_lw_590 (v := xs (i + 1).toNatClampNeg) rfl ?_
  refine z_aload_n X d_lw_591 rfl 0 rfl ?_
  refine z_iload X d_lw_592 4 rfl ?_
  refine z_iconst X d_lw_594 (v := 2) (by decide) ?_
  refine z_iadd X d_lw_595 ?_
  refine z_sld X hX hbl hbA (lw_in hi0 hi1 (k := 2) (by decide) (by decide)) d_lw_596 (v := xs (i + 2).toNatClampNeg) rfl ?_
  refine z_aload_n X d_lw_597 rfl 0 rfl ?_
  refine z_iload X d_lw_598 4 rfl ?_
  refine z_iconst X d_lw_600 (v := 3) (by decide) ?_
  refine z_iadd X d_lw_601 ?_
  refine z_sld X hX hbl hbA (lw_in hi0 hi1 (k := 3) (by decide) (by decide)) d_lw_602 (v := xs (i + 3).toNatClampNeg) rfl ?_
  obtain ⟨tq, tX9, tY9, t1, t2, t3, t4, t5⟩ := id hR.t
  obtain ⟨l1, l2⟩ := think_E (a := xs (i + 1).toNatClampNeg) (b := xs (i + 2).toNatClampNeg) (c := xs (i + 3).toNatClampNeg) t4 t5
  rw [List.append_assoc]
  refine cx_callG (rm := { frames := 2, cells := 0, slots := 0, locals := 44 }) (m0 := C_X10_think_0.2.2.2.2.1) (Ψ := (fun r w1 => (∃ v : Int32, r = some (.int v)) ∧ CQ G w1 105 8 (mMass tq (xs (i + 1).toNatClampNeg) (xs (i + 2).toNatClampNeg) (xs (i + 3).toNatClampNeg)))) (rest := []) (As := [.int (xs (i + 1).toNatClampNeg), .int (xs (i + 2).toNatClampNeg), .int (xs (i + 3).toNatClampNeg)]) X k_L_67 (fun ad w0 hW hag => ac_tkx l G hW ((hag 105 0 (by decide)).trans t1)) ⟨rfl, rfl⟩ (by decide) (fun r w1 wc hl h => ⟨h.1, h.2.app (by omega)⟩) hx d_lw_603 ⟨by decide, by decide⟩ ⟨hc, hs⟩ rfl rfl (by decide) rfl (fun r wx' hz hx' hl' hfx => ?_)
  rw [← List.append_assoc]
  obtain ⟨v, rfl⟩ := hz.1
  refine z_pop X d_lw_606 rfl ?_
  refine z_aload_n X d_lw_607 rfl 2 rfl ?_
  refine z_aload_n X d_lw_608 rfl 0 rfl ?_
  refine z_iload X d_lw_609 4 rfl ?_
  refine z_iconst X d_lw_611 (v := 1) (by decide) ?_
  refine z_iadd X d_lw_612 ?_
  refine z_sld X hX hbl hbA (lw_in hi0 hi1 (k := 1) (by decide) (by decide)) d_lw_613 (v := xs (i + 1).toNatClampNeg) rfl ?_
  refine z_aload_n X d_lw_614 rfl 0 rfl ?_
  refine z_iload X d_lw_615 4 rfl ?_
  refine z_iconst X d_lw_617 (v := 2) (by decide) ?_
  refine z_iadd X d_lw_618 ?_
  refine z_sld X hX hbl hbA (lw_in hi0 hi1 (k := 2) (by decide) (by decide)) d_lw_619 (v := xs (i + 2).toNatClampNeg) rfl ?_
  refine z_aload_n X d_lw_620 rfl 0 rfl ?_
  refine z_iload X d_lw_621 4 rfl ?_
  refine z_iconst X d_lw_623 (v := 3) (by decide) ?_
  refine z_iadd X d_lw_624 ?_
  refine z_sld X hX hbl hbA (lw_in hi0 hi1 (k := 3) (by decide) (by decide)) d_lw_625 (v := xs (i + 3).toNatClampNeg) rfl ?_
  refine mx_callG (rm := { frames := 2, cells := 0, slots := 0, locals := 47 }) (m0 := C_X11_think_0.2.2.2.2.1) (Ψ := (fun r w1 => (∃ v : Int32, r = some (.int v)) ∧ CQ G w1 18 4 (mMx tX9 (xs (i + 1).toNatClampNeg) (xs (i + 2).toNatClampNeg) (xs (i + 3).toNatClampNeg)) ∧ CQ G w1 19 4 (mMy tY9 (xs (i + 1).toNatClampNeg) (xs (i + 2).toNatClampNeg) (xs (i + 3).toNatClampNeg)))) (wa := wx') (rest := []) (As := [.int (xs (i + 1).toNatClampNeg), .int (xs (i + 2).toNatClampNeg), .int (xs (i + 3).toNatClampNeg)]) X k_L_70 (fun ad hW => ac_tkm l G hW t2 t3) ⟨rfl, rfl⟩ hy d_lw_626 ⟨by decide, by decide⟩ ⟨hc, hs⟩ rfl rfl (Nat.le_of_ble_eq_true rfl) rfl (fun r wm' hz2 hy' hfm => ?_)
  obtain ⟨v2, rfl⟩ := hz2.1
  obtain ⟨ev0, hM'⟩ := (⟨trivial, RelTh.set hz.2 hz2.2.1 hz2.2.2 l1 l2⟩ : True ∧ RelTh G wx' wm')
  have hR' : RelQ G wx' wm' := RelQ.of (hR.m.keep hfx hfm (by decide)) (hR.a.keep hfx hfm (by decide)) (hR.d.keep hfx hfm (by decide)) (hR.c.keep hfx hfm (by decide)) (hR.x.keep hfx hfm (by decide)) (hR.b.keep hfx hfm (by decide)) (hR.h.keep hfx hfm (by decide)) (hM') (hR.k.keep hfx hfm (by decide))
  refine z_pop X d_lw_629 rfl ?_
  refine z_goto X d_lw_630 (tgt := 2192) (by decide) ?_
  exact hK wx' wm' hx' hl' hy' hR'
theorem lc_10 (X : ZC p s m #[Value.ref b] meth c code 8 RL G (fun q : Nat => s.heap.size ≤ q) ret nm) (hX : va_X b L xs s s.heap) (hbl : b < s.heap.size) (hbA : ¬ s.heap.size ≤ b) (hi0 : 0 ≤ i.toInt) (hi1 : i.toInt + 10 ≤ (L : Int) ∧ L ≤ 5120) (hx : CWx G x wx) (hy : MWx G y wm) (hR : RelQ G wx wm) (hc : kc ≤ room_1.cells) (hs : ks ≤ room_1.slots) (hK : ∀ wx' wm', CWx G x wx' → wx'.length = wx.length → MWx G y wm' → RelQ G wx' wm' → Z p l e room_1 s m #[Value.ref b] below meth c 8 G (fun q : Nat => s.heap.size ≤ q) (lw_Z below #[Value.ref b] s) 2192 (lv5 b x y o i) [] (wx' ++ wm' ++ [(o, aJ G 1 f)]) kc ks) : Z p l e room_1 s m #[Value.ref b] below meth c 8 G (fun q : Nat => s.heap.size ≤ q) (lw_Z below #[Value.ref b] s) 633 (lv5 b x y o i) [] (wx ++ wm ++ [(o, aJ G 1 f)]) kc ks := by
  refine z_aload_n X d_lw_633 rfl 1 rfl ?_
  refine z_aload_n X d_lw_634 rfl 0 rfl ?_
  refine z_iload X d_lw_635 4 rfl ?_
  refine z_iconst X d_lw_637 (v := 1) (by decide) ?_
  refine z_iadd X d_lw_638 ?_
  refine z_sld X hX hbl hbA (lw_in hi0 hi1 (k := 1) (by decide) (by decide)) d_lw_639 (v := xs (i + 1).toNatClampNeg) rfl ?_
  refine z_aload_n X d_lw_640 rfl 0 rfl ?_
  refine z_iload X d_lw_641 4 rfl ?_
  refine z_iconst X d_lw_643 (v := 2) (by decide) ?_
  refine z_iadd X d_lw_644 ?_
  refine z_sld X hX hbl hbA (lw_in hi0 hi1 (k := 2) (by decide) (by decide)) d_lw_645 (v := xs (i + 2).toNatClampNeg) rfl ?_
  rw [List.append_assoc]
  refine cx_callF (k := 0) (rest := []) (As := [.int (xs (i + 1).toNatClampNeg), .int (xs (i + 2).toNatClampNeg)]) (μ := (fun k => ((Value.ref x :: [.int (xs (i + 1).toNatClampNeg), .int (xs (i + 2).toNatClampNeg)])[k]?).getD .null)) X k_L_71 (ac_X10_pound_0 l G) (by decide) (by decide) (by decide) hx (fun ad w0 he => pre_mu (C := C_X10_pound_0) (ts := [tI0, tI0]) (As := [.int (xs (i + 1).toNatClampNeg), .int (xs (i + 2).toNatClampNeg)]) rfl rfl rfl rfl ⟨fun _ => vty_i0 _, fun _ => vty_i0 _, trivial⟩ ad w0 he) rfl d_lw_646 ⟨by decide, by decide⟩ ⟨hc, hs⟩ rfl rfl (by decide) rfl (fun r wx' hr hx' hl' hfx => ?_)
  rw [← List.append_assoc]
  rcases hr with ⟨h, -⟩ | ⟨-, v, rfl⟩ | ⟨h, -⟩
  all_goals first | (exact absurd h (by decide)) | skip
  refine z_pop X d_lw_649 rfl ?_
  refine z_aload_n X d_lw_650 rfl 2 rfl ?_
  refine z_aload_n X d_lw_651 rfl 0 rfl ?_
  refine z_iload X d_lw_652 4 rfl ?_
  refine z_iconst X d_lw_654 (v := 1) (by decide) ?_
  refine z_iadd X d_lw_655 ?_
  refine z_sld X hX hbl hbA (lw_in hi0 hi1 (k := 1) (by decide) (by decide)) d_lw_656 (v := xs (i + 1).toNatClampNeg) rfl ?_
  refine z_aload_n X d_lw_657 rfl 0 rfl ?_
  refine z_iload X d_lw_658 4 rfl ?_
  refine z_iconst X d_lw_660 (v := 2) (by decide) ?_
  refine z_iadd X d_lw_661 ?_
  refine z_sld X hX hbl hbA (lw_in hi0 hi1 (k := 2) (by decide) (by decide)) d_lw_662 (v := xs (i + 2).toNatClampNeg) rfl ?_
  refine mx_callF (k := 0) (wa := wx') (rest := []) (As := [.int (xs (i + 1).toNatClampNeg), .int (xs (i + 2).toNatClampNeg)]) (μ := (fun k => ((Value.ref y :: [.int (xs (i + 1).toNatClampNeg), .int (xs (i + 2).toNatClampNeg)])[k]?).getD .null)) X k_L_75 (ac_X11_pound_0 l G) (by decide) (by decide) hy (fun ad w0 he => pre_mu (C := C_X11_pound_0) (ts := [tI0, tI0]) (As := [.int (xs (i + 1).toNatClampNeg), .int (xs (i + 2).toNatClampNeg)]) rfl rfl rfl rfl ⟨fun _ => vty_i0 _, fun _ => vty_i0 _, trivial⟩ ad w0 he) rfl d_lw_663 ⟨by decide, by decide⟩ ⟨hc, hs⟩ rfl rfl (Nat.le_of_ble_eq_true rfl) rfl (fun r wm' hr hy' hfm => ?_)
  rcases hr with ⟨h, -⟩ | ⟨-, v, rfl⟩ | ⟨h, -⟩
  all_goals first | (exact absurd h (by decide)) | skip
  refine z_pop X d_lw_666 rfl ?_
  refine z_goto X d_lw_667 (tgt := 2192) (by decide) ?_
  exact hK wx' wm' hx' hl' hy' (RelQ.of (hR.m.keep hfx hfm (by decide)) (hR.a.keep hfx hfm (by decide)) (hR.d.keep hfx hfm (by decide)) (hR.c.keep hfx hfm (by decide)) (hR.x.keep hfx hfm (by decide)) (hR.b.keep hfx hfm (by decide)) (hR.h.keep hfx hfm (by decide)) (hR.t.keep hfx hfm (by decide)) (hR.k.keep hfx hfm (by decide)))
theorem lc_11 (X : ZC p s m #[Value.ref b] meth c code 8 RL G (fun q : Nat => s.heap.size ≤ q) ret nm) (hX : va_X b L xs s s.heap) (hbl : b < s.heap.size) (hbA : ¬ s.heap.size ≤ b) (hi0 : 0 ≤ i.toInt) (hi1 : i.toInt + 10 ≤ (L : Int) ∧ L ≤ 5120) (hx : CWx G x wx) (hy : MWx G y wm) (hR : RelQ G wx wm) (hc : kc ≤ room_1.cells) (hs : ks ≤ room_1.slots) (hK : ∀ wx' wm', CWx G x wx' → wx'.length = wx.length → MWx G y wm' → RelQ G wx' wm' → Z p l e room_1 s m #[Value.ref b] below meth c 8 G (fun q : Nat => s.heap.size ≤ q) (lw_Z below #[Value.ref b] s) 2192 (lv5 b x y o i) [] (wx' ++ wm' ++ [(o, aJ G 1 f)]) kc ks) : Z p l e room_1 s m #[Value.ref b] below meth c 8 G (fun q : Nat => s.heap.size ≤ q) (lw_Z below #[Value.ref b] s) 670 (lv5 b x y o i) [] (wx ++ wm ++ [(o, aJ G 1 f)]) kc ks := by
  refine z_aload_n X d_lw_670 rfl 1 rfl ?_
  refine z_aload_n X d_lw_671 rfl 0 rfl ?_
  refine z_iload X d_lw_672 4 rfl ?_
  refine z_iconst X d_lw_674 (v := 1) (by decide) ?_
  refine z_iadd X d_lw_675 ?_
  refine z_sld X hX hbl hbA (lw_in hi0 hi1 (k := 1) (by decide) (by decide)) d_lw_676 (v := xs (i + 1).toNatClampNeg) rfl ?_
  refine z_aload_n X d_lw_677 rfl 0 rfl ?_
  refine z_iload X d_lw_678 4 rfl ?_
  refine z_iconst X d_lw_680 (v := 2) (by decide) ?_
  refine z_iadd X d_lw_681 ?_
  refine z_sld X hX hbl hbA (lw_in hi0 hi1 (k := 2) (by decide) (by decide)) d_lw_682 (v := xs (i + 2).toNatClampNeg) rfl ?_
  rw [List.append_assoc]
  refine cx_callF (k := 0) (rest := []) (As := [.int (xs (i + 1).toNatClampNeg), .int (xs (i + 2).toNatClampNeg)]) (μ := (fun k => ((Value.ref x :: [.int (xs (i + 1).toNatClampNeg), .int (xs (i + 2).toNatClampNeg)])[k]?).getD .null)) X k_L_76 (ac_X10_feel_0 l G) (by decide) (by decide) (by decide) hx (fun ad w0 he => pre_mu (C := C_X10_feel_0) (ts := [tI0, tI0]) (As := [.int (xs (i + 1).toNatClampNeg), .int (xs (i + 2).toNatClampNeg)]) rfl rfl rfl rfl ⟨fun _ => vty_i0 _, fun _ => vty_i0 _, trivial⟩ ad w0 he) rfl d_lw_683 ⟨by decide, by decide⟩ ⟨hc, hs⟩ rfl rfl (by decide) rfl (fun r wx' hr hx' hl' hfx => ?_)
  rw [← List.append_assoc]
  rcases hr with ⟨h, -⟩ | ⟨-, v, rfl⟩ | ⟨h, -⟩
  all_goals first | (exact absurd h (by decide)) | skip
  refine z_pop X d_lw_686 rfl ?_
  refine z_aload_n X d_lw_687 rfl 2 rfl ?_
  refine z_aload_n X d_lw_688 rfl 0 rfl ?_
  refine z_iload X d_lw_689 4 rfl ?_
  refine z_iconst X d_lw_691 (v := 1) (by decide) ?_
  refine z_iadd X d_lw_692 ?_
  refine z_sld X hX hbl hbA (lw_in hi0 hi1 (k := 1) (by decide) (by decide)) d_lw_693 (v := xs (i + 1).toNatClampNeg) rfl ?_
  refine z_aload_n X d_lw_694 rfl 0 rfl ?_
  refine z_iload X d_lw_695 4 rfl ?_
  refine z_iconst X d_lw_697 (v := 2) (by decide) ?_
  refine z_iadd X d_lw_698 ?_
  refine z_sld X hX hbl hbA (lw_in hi0 hi1 (k := 2) (by decide) (by decide)) d_lw_699 (v := xs (i + 2).toNatClampNeg) rfl ?_
  refine mx_callF (k := 0) (wa := wx') (rest := []) (As := [.int (xs (i + 1).toNatClampNeg), .int (xs (i + 2).toNatClampNeg)]) (μ := (fun k => ((Value.ref y :: [.int (xs (i + 1).toNatClampNeg), .int (xs (i + 2).toNatClampNeg)])[k]?).getD .null)) X k_L_79 (ac_X11_feel_0 l G) (by decide) (by decide) hy (fun ad w0 he => pre_mu (C := C_X11_feel_0) (ts := [tI0, tI0]) (As := [.int (xs (i + 1).toNatClampNeg), .int (xs (i + 2).toNatClampNeg)]) rfl rfl rfl rfl ⟨fun _ => vty_i0 _, fun _ => vty_i0 _, trivial⟩ ad w0 he) rfl d_lw_700 ⟨by decide, by decide⟩ ⟨hc, hs⟩ rfl rfl (Nat.le_of_ble_eq_true rfl) rfl (fun r wm' hr hy' hfm => ?_)
  rcases hr with ⟨h, -⟩ | ⟨-, v, rfl⟩ | ⟨h, -⟩
  all_goals first | (exact absurd h (by decide)) | skip
  refine z_pop X d_lw_703 rfl ?_
  refine z_goto X d_lw_704 (tgt := 2192) (by decide) ?_
  exact hK wx' wm' hx' hl' hy' (RelQ.of (hR.m.keep hfx hfm (by decide)) (hR.a.keep hfx hfm (by decide)) (hR.d.keep hfx hfm (by decide)) (hR.c.keep hfx hfm (by decide)) (hR.x.keep hfx hfm (by decide)) (hR.b.keep hfx hfm (by decide)) (hR.h.keep hfx hfm (by decide)) (hR.t.keep hfx hfm (by decide)) (hR.k.keep hfx hfm (by decide)))
theorem lc_12 (X : ZC p s m #[Value.ref b] meth c code 8 RL G (fun q : Nat => s.heap.size ≤ q) ret nm) (hX : va_X b L xs s s.heap) (hbl : b < s.heap.size) (hbA : ¬ s.heap.size ≤ b) (hi0 : 0 ≤ i.toInt) (hi1 : i.toInt + 10 ≤ (L : Int) ∧ L ≤ 5120) (hx : CWx G x wx) (hy : MWx G y wm) (hR : RelQ G wx wm) (hc : kc ≤ room_1.cells) (hs : ks ≤ room_1.slots) (hK : ∀ wx' wm', CWx G x wx' → wx'.length = wx.length → MWx G y wm' → RelQ G wx' wm' → Z p l e room_1 s m #[Value.ref b] below meth c 8 G (fun q : Nat => s.heap.size ≤ q) (lw_Z below #[Value.ref b] s) 2192 (lv5 b x y o i) [] (wx' ++ wm' ++ [(o, aJ G 1 f)]) kc ks) : Z p l e room_1 s m #[Value.ref b] below meth c 8 G (fun q : Nat => s.heap.size ≤ q) (lw_Z below #[Value.ref b] s) 707 (lv5 b x y o i) [] (wx ++ wm ++ [(o, aJ G 1 f)]) kc ks := by
  refine z_aload_n X d_lw_707 rfl 1 rfl ?_
  refine z_aload_n X d_lw_708 rfl 0 rfl ?_
  refine z_iload X d_lw_709 4 rfl ?_
  refine z_iconst X d_lw_711 (v := 1) (by decide) ?_
  refine z_iadd X d_lw_712 ?_
  refine z_sld X hX hbl hbA (lw_in hi0 hi1 (k := 1) (by decide) (by decide)) d_lw_713 (v := xs (i + 1).toNatClampNeg) rfl ?_
  refine z_aload_n X d_lw_714 rfl 0 rfl ?_
  refine z_iload X d_lw_715 4 rfl ?_
  refine z_iconst X d_lw_717 (v := 2) (by decide) ?_
  refine z_iadd X d_lw_718 ?_
  refine z_sld X hX hbl hbA (lw_in hi0 hi1 (k := 2) (by decide) (by decide)) d_lw_719 (v := xs (i + 2).toNatClampNeg) rfl ?_
  rw [List.append_assoc]
  refine cx_callF (k := 0) (rest := []) (As := [.int (xs (i + 1).toNatClampNeg), .int (xs (i + 2).toNatClampNeg)]) (μ := (fun k => ((Value.ref x :: [.int (xs (i + 1).toNatClampNeg), .int (xs (i + 2).toNatClampNeg)])[k]?).getD .null)) X k_L_80 (ac_X10_hums_0 l G) (by decide) (by decide) (by decide) hx (fun ad w0 he => pre_mu (C := C_X10_hums_0) (ts := [tI0, tI0]) (As := [.int (xs (i + 1).toNatClampNeg), .int (xs (i + 2).toNatClampNeg)]) rfl rfl rfl rfl ⟨fun _ => vty_i0 _, fun _ => vty_i0 _, trivial⟩ ad w0 he) rfl d_lw_720 ⟨by decide, by decide⟩ ⟨hc, hs⟩ rfl rfl (by decide) rfl (fun r wx' hr hx' hl' hfx => ?_)
  rw [← List.append_assoc]
  rcases hr with ⟨h, -⟩ | ⟨-, v, rfl⟩ | ⟨h, -⟩
  all_goals first | (exact absurd h (by decide)) | skip
  refine z_pop X d_lw_723 rfl ?_
  refine z_aload_n X d_lw_724 rfl 2 rfl ?_
  refine z_aload_n X d_lw_725 rfl 0 rfl ?_
  refine z_iload X d_lw_726 4 rfl ?_
  refine z_iconst X d_lw_728 (v := 1) (by decide) ?_
  refine z_iadd X d_lw_729 ?_
  refine z_sld X hX hbl hbA (lw_in hi0 hi1 (k := 1) (by decide) (by decide)) d_lw_730 (v := xs (i + 1).toNatClampNeg) rfl ?_
  refine z_aload_n X d_lw_731 rfl 0 rfl ?_
  refine z_iload X d_lw_732 4 rfl ?_
  refine z_iconst X d_lw_734 (v := 2) (by decide) ?_
  refine z_iadd X d_lw_735 ?_
  refine z_sld X hX hbl hbA (lw_in hi0 hi1 (k := 2) (by decide) (by decide)) d_lw_736 (v := xs (i + 2).toNatClampNeg) rfl ?_
  refine mx_callF (k := 0) (wa := wx') (rest := []) (As := [.int (xs (i + 1).toNatClampNeg), .int (xs (i + 2).toNatClampNeg)]) (μ := (fun k => ((Value.ref y :: [.int (xs (i + 1).toNatClampNeg), .int (xs (i + 2).toNatClampNeg)])[k]?).getD .null)) X k_L_83 (ac_X11_hums_0 l G) (by decide) (by decide) hy (fun ad w0 he => pre_mu (C := C_X11_hums_0) (ts := [tI0, tI0]) (As := [.int (xs (i + 1).toNatClampNeg), .int (xs (i + 2).toNatClampNeg)]) rfl rfl rfl rfl ⟨fun _ => vty_i0 _, fun _ => vty_i0 _, trivial⟩ ad w0 he) rfl d_lw_737 ⟨by decide, by decide⟩ ⟨hc, hs⟩ rfl rfl (Nat.le_of_ble_eq_true rfl) rfl (fun r wm' hr hy' hfm => ?_)
  rcases hr with ⟨h, -⟩ | ⟨-, v, rfl⟩ | ⟨h, -⟩
  all_goals first | (exact absurd h (by decide)) | skip
  refine z_pop X d_lw_740 rfl ?_
  refine z_goto X d_lw_741 (tgt := 2192) (by decide) ?_
  exact hK wx' wm' hx' hl' hy' (RelQ.of (hR.m.keep hfx hfm (by decide)) (hR.a.keep hfx hfm (by decide)) (hR.d.keep hfx hfm (by decide)) (hR.c.keep hfx hfm (by decide)) (hR.x.keep hfx hfm (by decide)) (hR.b.keep hfx hfm (by decide)) (hR.h.keep hfx hfm (by decide)) (hR.t.keep hfx hfm (by decide)) (hR.k.keep hfx hfm (by decide)))
theorem lc_13 (X : ZC p s m #[Value.ref b] meth c code 8 RL G (fun q : Nat => s.heap.size ≤ q) ret nm) (hX : va_X b L xs s s.heap) (hbl : b < s.heap.size) (hbA : ¬ s.heap.size ≤ b) (hi0 : 0 ≤ i.toInt) (hi1 : i.toInt + 10 ≤ (L : Int) ∧ L ≤ 5120) (hx : CWx G x wx) (hy : MWx G y wm) (hR : RelQ G wx wm) (hc : kc ≤ room_1.cells) (hs : ks ≤ room_1.slots) (hK : ∀ wx' wm', CWx G x wx' → wx'.length = wx.length → MWx G y wm' → RelQ G wx' wm' → Z p l e room_1 s m #[Value.ref b] below meth c 8 G (fun q : Nat => s.heap.size ≤ q) (lw_Z below #[Value.ref b] s) 2192 (lv5 b x y o i) [] (wx' ++ wm' ++ [(o, aJ G 1 f)]) kc ks) : Z p l e room_1 s m #[Value.ref b] below meth c 8 G (fun q : Nat => s.heap.size ≤ q) (lw_Z below #[Value.ref b] s) 744 (lv5 b x y o i) [] (wx ++ wm ++ [(o, aJ G 1 f)]) kc ks := by
  refine z_aload_n X d_lw_744 rfl 1 rfl ?_
  refine z_aload_n X d_lw_745 rfl 0 rfl ?_
  refine z_iload X d_lw_746 4 rfl ?_
  refine z_iconst X d_lw_748 (v := 1) (by decide) ?_
  refine z_iadd X d_lw_749 ?_
  refine z_sld X hX hbl hbA (lw_in hi0 hi1 (k := 1) (by decide) (by decide)) d_lw_750 (v := xs (i + 1).toNatClampNeg) rfl ?_
  refine z_aload_n X d_lw_751 rfl 0 rfl ?_
  refine z_iload X d_lw_752 4 rfl ?_
  refine z_iconst X d_lw_754 (v := 2) (by decide) ?_
  refine z_iadd X d_lw_755 ?_
  refine z_sld X hX hbl hbA (lw_in hi0 hi1 (k := 2) (by decide) (by decide)) d_lw_756 (v := xs (i + 2).toNatClampNeg) rfl ?_
  refine z_aload_n X d_lw_757 rfl 0 rfl ?_
  refine z_iload X d_lw_758 4 rfl ?_
  refine z_iconst X d_lw_760 (v := 3) (by decide) ?_
  refine z_iadd X d_lw_761 ?_
  refine z_sld X hX hbl hbA (lw_in hi0 hi1 (k := 3) (by decide) (by decide)) d_lw_762 (v := xs (i + 3).toNatClampNeg) rfl ?_
  refine z_aload_n X d_lw_763 rfl 0 rfl ?_
  refine z_iload X d_lw_764 4 rfl ?_
  refine z_iconst X d_lw_766 (v := 4) (by decide) ?_
  refine z_iadd X d_lw_767 ?_
  refine z_sld X hX hbl hbA (lw_in hi0 hi1 (k := 4) (by decide) (by decide)) d_lw_768 (v := xs (i + 4).toNatClampNeg) rfl ?_
  rw [List.append_assoc]
  refine cx_callF (k := 0) (rest := []) (As := [.int (xs (i + 1).toNatClampNeg), .int (xs (i + 2).toNatClampNeg), .int (xs (i + 3).toNatClampNeg), .int (xs (i + 4).toNatClampNeg)]) (μ := (fun k => ((Value.ref x :: [.int (xs (i + 1).toNatClampNeg), .int (xs (i + 2).toNatClampNeg), .int (xs (i + 3).toNatClampNeg), .int (xs (i + 4).toNatClampNeg)])[k]?).getD .null)) X k_L_84 (ac_X10_whole_0 l G) (by decide) (by decide) (by decide) hx (fun ad w0 he => pre_mu (C := C_X10_whole_0) (ts := [tI0, tI0, tI0, tI0]) (As := [.int (xs (i + 1).toNatClampNeg), .int (xs (i + 2).toNatClampNeg), .int (xs (i + 3).toNatClampNeg), .int (xs (i + 4).toNatClampNeg)]) rfl rfl rfl rfl ⟨fun _ => vty_i0 _, fun _ => vty_i0 _, fun _ => vty_i0 _, fun _ => vty_i0 _, trivial⟩ ad w0 he) rfl d_lw_769 ⟨by decide, by decide⟩ ⟨hc, hs⟩ rfl rfl (by decide) rfl (fun r wx' hr hx' hl' hfx => ?_)
  rw [← List.append_assoc]
  rcases hr with ⟨h, -⟩ | ⟨-, v, rfl⟩ | ⟨h, -⟩
  all_goals first | (exact absurd h (by decide)) | skip
  refine z_pop X d_lw_772 rfl ?_
  refine z_aload_n X d_lw_773 rfl 2 rfl ?_
  refine z_aload_n X d_lw_774 rfl 0 rfl ?_
  refine z_iload X d_lw_775 4 rfl ?_
  refine z_iconst X d_lw_777 (v := 1) (by decide) ?_
  refine z_iadd X d_lw_778 ?_
  refine z_sld X hX hbl hbA (lw_in hi0 hi1 (k := 1) (by decide) (by decide)) d_lw_779 (v := xs (i + 1).toNatClampNeg) rfl ?_
  refine z_aload_n X d_lw_780 rfl 0 rfl ?_
  refine z_iload X d_lw_781 4 rfl ?_
  refine z_iconst X d_lw_783 (v := 2) (by decide) ?_
  refine z_iadd X d_lw_784 ?_
  refine z_sld X hX hbl hbA (lw_in hi0 hi1 (k := 2) (by decide) (by decide)) d_lw_785 (v := xs (i + 2).toNatClampNeg) rfl ?_
  refine z_aload_n X d_lw_786 rfl 0 rfl ?_
  refine z_iload X d_lw_787 4 rfl ?_
  refine z_iconst X d_lw_789 (v := 3) (by decide) ?_
  refine z_iadd X d_lw_790 ?_
  refine z_sld X hX hbl hbA (lw_in hi0 hi1 (k := 3) (by decide) (by decide)) d_lw_791 (v := xs (i + 3).toNatClampNeg) rfl ?_
  refine z_aload_n X d_lw_792 rfl 0 rfl ?_
  refine z_iload X d_lw_793 4 rfl ?_
  refine z_iconst X d_lw_795 (v := 4) (by decide) ?_
  refine z_iadd X d_lw_796 ?_
  refine z_sld X hX hbl hbA (lw_in hi0 hi1 (k := 4) (by decide) (by decide)) d_lw_797 (v := xs (i + 4).toNatClampNeg) rfl ?_
  refine mx_callF (k := 0) (wa := wx') (rest := []) (As := [.int (xs (i + 1).toNatClampNeg), .int (xs (i + 2).toNatClampNeg), .int (xs (i + 3).toNatClampNeg), .int (xs (i + 4).toNatClampNeg)]) (μ := (fun k => ((Value.ref y :: [.int (xs (i + 1).toNatClampNeg), .int (xs (i + 2).toNatClampNeg), .int (xs (i + 3).toNatClampNeg), .int (xs (i + 4).toNatClampNeg)])[k]?).getD .null)) X k_L_87 (ac_X11_whole_0 l G) (by decide) (by decide) hy (fun ad w0 he => pre_mu (C := C_X11_whole_0) (ts := [tI0, tI0, tI0, tI0]) (As := [.int (xs (i + 1).toNatClampNeg), .int (xs (i + 2).toNatClampNeg), .int (xs (i + 3).toNatClampNeg), .int (xs (i + 4).toNatClampNeg)]) rfl rfl rfl rfl ⟨fun _ => vty_i0 _, fun _ => vty_i0 _, fun _ => vty_i0 _, fun _ => vty_i0 _, trivial⟩ ad w0 he) rfl d_lw_798 ⟨by decide, by decide⟩ ⟨hc, hs⟩ rfl rfl (Nat.le_of_ble_eq_true rfl) rfl (fun r wm' hr hy' hfm => ?_)
  rcases hr with ⟨h, -⟩ | ⟨-, v, rfl⟩ | ⟨h, -⟩
  all_goals first | (exact absurd h (by decide)) | skip
  refine z_pop X d_lw_801 rfl ?_
  refine z_goto X d_lw_802 (tgt := 2192) (by decide) ?_
  exact hK wx' wm' hx' hl' hy' (RelQ.of (hR.m.keep hfx hfm (by decide)) (hR.a.keep hfx hfm (by decide)) (hR.d.keep hfx hfm (by decide)) (hR.c.keep hfx hfm (by decide)) (hR.x.keep hfx hfm (by decide)) (hR.b.keep hfx hfm (by decide)) (hR.h.keep hfx hfm (by decide)) (hR.t.keep hfx hfm (by decide)) (hR.k.keep hfx hfm (by decide)))
theorem lc_14 (X : ZC p s m #[Value.ref b] meth c code 8 RL G (fun q : Nat => s.heap.size ≤ q) ret nm) (hX : va_X b L xs s s.heap) (hbl : b < s.heap.size) (hbA : ¬ s.heap.size ≤ b) (hi0 : 0 ≤ i.toInt) (hi1 : i.toInt + 10 ≤ (L : Int) ∧ L ≤ 5120) (hx : CWx G x wx) (hy : MWx G y wm) (hR : RelQ G wx wm) (hc : kc ≤ room_1.cells) (hs : ks ≤ room_1.slots) (hK : ∀ wx' wm', CWx G x wx' → wx'.length = wx.length → MWx G y wm' → RelQ G wx' wm' → Z p l e room_1 s m #[Value.ref b] below meth c 8 G (fun q : Nat => s.heap.size ≤ q) (lw_Z below #[Value.ref b] s) 2192 (lv5 b x y o i) [] (wx' ++ wm' ++ [(o, aJ G 1 f)]) kc ks) : Z p l e room_1 s m #[Value.ref b] below meth c 8 G (fun q : Nat => s.heap.size ≤ q) (lw_Z below #[Value.ref b] s) 805 (lv5 b x y o i) [] (wx ++ wm ++ [(o, aJ G 1 f)]) kc ks := by
  refine z_aload_n X d_lw_805 rfl 1 rfl ?_
  refine z_aload_n X d_lw_806 rfl 0 rfl ?_
  refine z_iload X d_lw_807 4 rfl ?_
  refine z_iconst X d_lw_809 (v := 1) (by decide) ?_
  refine z_iadd X d_lw_810 ?_
  refine z_sld X hX hbl hbA (lw_in hi0 hi1 (k := 1) (by decide) (by decide)) d_lw_811 (v := xs (i + 1).toNatClampNeg) rfl ?_
  refine z_aload_n X d_lw_812 rfl 0 rfl ?_
  refine z_iload X d_lw_813 4 rfl ?_
  refine z_iconst X d_lw_815 (v := 2) (by decide) ?_
  refine z_iadd X d_lw_816 ?_
  refine z_sld X hX hbl hbA (lw_in hi0 hi1 (k := 2) (by decide) (by decide)) d_lw_817 (v := xs (i + 2).toNatClampNeg) rfl ?_
  refine z_aload_n X d_lw_818 rfl 0 rfl ?_
  refine z_iload X d_lw_819 4 rfl ?_
  refine z_iconst X d_lw_821 (v := 3) (by decide) ?_
  refine z_iadd X d_lw_822 ?_
  refine z_sld X hX hbl hbA (lw_in hi0 hi1 (k := 3) (by decide) (by decide)) d_lw_823 (v := xs (i + 3).toNatClampNeg) rfl ?_
  rw [List.append_assoc]
  refine cx_callF (k := 0) (rest := []) (As := [.int (xs (i + 1).toNatClampNeg), .int (xs (i + 2).toNatClampNeg), .int (xs (i + 3).toNatClampNeg)]) (μ := (fun k => ((Value.ref x :: [.int (xs (i + 1).toNatClampNeg), .int (xs (i + 2).toNatClampNeg), .int (xs (i + 3).toNatClampNeg)])[k]?).getD .null)) X k_L_88 (ac_X10_much_0 l G) (by decide) (by decide) (by decide) hx (fun ad w0 he => pre_mu (C := C_X10_much_0) (ts := [tI0, tI0, tI0]) (As := [.int (xs (i + 1).toNatClampNeg), .int (xs (i + 2).toNatClampNeg), .int (xs (i + 3).toNatClampNeg)]) rfl rfl rfl rfl ⟨fun _ => vty_i0 _, fun _ => vty_i0 _, fun _ => vty_i0 _, trivial⟩ ad w0 he) rfl d_lw_824 ⟨by decide, by decide⟩ ⟨hc, hs⟩ rfl rfl (by decide) rfl (fun r wx' hr hx' hl' hfx => ?_)
  rw [← List.append_assoc]
  rcases hr with ⟨h, -⟩ | ⟨-, v, rfl⟩ | ⟨h, -⟩
  all_goals first | (exact absurd h (by decide)) | skip
  refine z_pop X d_lw_827 rfl ?_
  refine z_aload_n X d_lw_828 rfl 2 rfl ?_
  refine z_aload_n X d_lw_829 rfl 0 rfl ?_
  refine z_iload X d_lw_830 4 rfl ?_
  refine z_iconst X d_lw_832 (v := 1) (by decide) ?_
  refine z_iadd X d_lw_833 ?_
  refine z_sld X hX hbl hbA (lw_in hi0 hi1 (k := 1) (by decide) (by decide)) d_lw_834 (v := xs (i + 1).toNatClampNeg) rfl ?_
  refine z_aload_n X d_lw_835 rfl 0 rfl ?_
  refine z_iload X d_lw_836 4 rfl ?_
  refine z_iconst X d_lw_838 (v := 2) (by decide) ?_
  refine z_iadd X d_lw_839 ?_
  refine z_sld X hX hbl hbA (lw_in hi0 hi1 (k := 2) (by decide) (by decide)) d_lw_840 (v := xs (i + 2).toNatClampNeg) rfl ?_
  refine z_aload_n X d_lw_841 rfl 0 rfl ?_
  refine z_iload X d_lw_842 4 rfl ?_
  refine z_iconst X d_lw_844 (v := 3) (by decide) ?_
  refine z_iadd X d_lw_845 ?_
  refine z_sld X hX hbl hbA (lw_in hi0 hi1 (k := 3) (by decide) (by decide)) d_lw_846 (v := xs (i + 3).toNatClampNeg) rfl ?_
  refine mx_callF (k := 0) (wa := wx') (rest := []) (As := [.int (xs (i + 1).toNatClampNeg), .int (xs (i + 2).toNatClampNeg), .int (xs (i + 3).toNatClampNeg)]) (μ := (fun k => ((Value.ref y :: [.int (xs (i + 1).toNatClampNeg), .int (xs (i + 2).toNatClampNeg), .int (xs (i + 3).toNatClampNeg)])[k]?).getD .null)) X k_L_91 (ac_X11_much_0 l G) (by decide) (by decide) hy (fun ad w0 he => pre_mu (C := C_X11_much_0) (ts := [tI0, tI0, tI0]) (As := [.int (xs (i + 1).toNatClampNeg), .int (xs (i + 2).toNatClampNeg), .int (xs (i + 3).toNatClampNeg)]) rfl rfl rfl rfl ⟨fun _ => vty_i0 _, fun _ => vty_i0 _, fun _ => vty_i0 _, trivial⟩ ad w0 he) rfl d_lw_847 ⟨by decide, by decide⟩ ⟨hc, hs⟩ rfl rfl (Nat.le_of_ble_eq_true rfl) rfl (fun r wm' hr hy' hfm => ?_)
  rcases hr with ⟨h, -⟩ | ⟨-, v, rfl⟩ | ⟨h, -⟩
  all_goals first | (exact absurd h (by decide)) | skip
  refine z_pop X d_lw_850 rfl ?_
  refine z_goto X d_lw_851 (tgt := 2192) (by decide) ?_
  exact hK wx' wm' hx' hl' hy' (RelQ.of (hR.m.keep hfx hfm (by decide)) (hR.a.keep hfx hfm (by decide)) (hR.d.keep hfx hfm (by decide)) (hR.c.keep hfx hfm (by decide)) (hR.x.keep hfx hfm (by decide)) (hR.b.keep hfx hfm (by decide)) (hR.h.keep hfx hfm (by decide)) (hR.t.keep hfx hfm (by decide)) (hR.k.keep hfx hfm (by decide)))
theorem lc_15 (X : ZC p s m #[Value.ref b] meth c code 8 RL G (fun q : Nat => s.heap.size ≤ q) ret nm) (hX : va_X b L xs s s.heap) (hbl : b < s.heap.size) (hbA : ¬ s.heap.size ≤ b) (hi0 : 0 ≤ i.toInt) (hi1 : i.toInt + 10 ≤ (L : Int) ∧ L ≤ 5120) (hx : CWx G x wx) (hy : MWx G y wm) (hR : RelQ G wx wm) (hc : kc ≤ room_1.cells) (hs : ks ≤ room_1.slots) (hK : ∀ wx' wm', CWx G x wx' → wx'.length = wx.length → MWx G y wm' → RelQ G wx' wm' → Z p l e room_1 s m #[Value.ref b] below meth c 8 G (fun q : Nat => s.heap.size ≤ q) (lw_Z below #[Value.ref b] s) 2192 (lv5 b x y o i) [] (wx' ++ wm' ++ [(o, aJ G 1 f)]) kc ks) : Z p l e room_1 s m #[Value.ref b] below meth c 8 G (fun q : Nat => s.heap.size ≤ q) (lw_Z below #[Value.ref b] s) 854 (lv5 b x y o i) [] (wx ++ wm ++ [(o, aJ G 1 f)]) kc ks := by
  refine z_aload_n X d_lw_854 rfl 1 rfl ?_
  rw [List.append_assoc]
  refine cx_callF (k := 0) (rest := []) (As := []) (μ := (fun k => ((Value.ref x :: [])[k]?).getD .null)) X k_L_92 (ac_X10_drop_0 l G) (by decide) (by decide) (by decide) hx (fun ad w0 he => pre_mu (C := C_X10_drop_0) (ts := []) (As := []) rfl rfl rfl rfl trivial ad w0 he) rfl d_lw_855 ⟨by decide, by decide⟩ ⟨hc, hs⟩ rfl rfl (by decide) rfl (fun r wx' hr hx' hl' hfx => ?_)
  rw [← List.append_assoc]
  rcases hr with ⟨h, -⟩ | ⟨-, v, rfl⟩ | ⟨h, -⟩
  all_goals first | (exact absurd h (by decide)) | skip
  refine z_pop X d_lw_858 rfl ?_
  refine z_aload_n X d_lw_859 rfl 2 rfl ?_
  refine mx_callF (k := 0) (wa := wx') (rest := []) (As := []) (μ := (fun k => ((Value.ref y :: [])[k]?).getD .null)) X k_L_95 (ac_X11_drop_0 l G) (by decide) (by decide) hy (fun ad w0 he => pre_mu (C := C_X11_drop_0) (ts := []) (As := []) rfl rfl rfl rfl trivial ad w0 he) rfl d_lw_860 ⟨by decide, by decide⟩ ⟨hc, hs⟩ rfl rfl (Nat.le_of_ble_eq_true rfl) rfl (fun r wm' hr hy' hfm => ?_)
  rcases hr with ⟨h, -⟩ | ⟨-, v, rfl⟩ | ⟨h, -⟩
  all_goals first | (exact absurd h (by decide)) | skip
  refine z_pop X d_lw_863 rfl ?_
  refine z_goto X d_lw_864 (tgt := 2192) (by decide) ?_
  exact hK wx' wm' hx' hl' hy' (RelQ.of (hR.m.keep hfx hfm (by decide)) (hR.a.keep hfx hfm (by decide)) (hR.d.keep hfx hfm (by decide)) (hR.c.keep hfx hfm (by decide)) (hR.x.keep hfx hfm (by decide)) (hR.b.keep hfx hfm (by decide)) (hR.h.keep hfx hfm (by decide)) (hR.t.keep hfx hfm (by decide)) (hR.k.keep hfx hfm (by decide)))
theorem lc_16 (X : ZC p s m #[Value.ref b] meth c code 8 RL G (fun q : Nat => s.heap.size ≤ q) ret nm) (hX : va_X b L xs s s.heap) (hbl : b < s.heap.size) (hbA : ¬ s.heap.size ≤ b) (hi0 : 0 ≤ i.toInt) (hi1 : i.toInt + 10 ≤ (L : Int) ∧ L ≤ 5120) (hx : CWx G x wx) (hy : MWx G y wm) (hR : RelQ G wx wm) (hc : kc ≤ room_1.cells) (hs : ks ≤ room_1.slots) (hK : ∀ wx' wm', CWx G x wx' → wx'.length = wx.length → MWx G y wm' → RelQ G wx' wm' → Z p l e room_1 s m #[Value.ref b] below meth c 8 G (fun q : Nat => s.heap.size ≤ q) (lw_Z below #[Value.ref b] s) 2192 (lv5 b x y o i) [] (wx' ++ wm' ++ [(o, aJ G 1 f)]) kc ks) : Z p l e room_1 s m #[Value.ref b] below meth c 8 G (fun q : Nat => s.heap.size ≤ q) (lw_Z below #[Value.ref b] s) 867 (lv5 b x y o i) [] (wx ++ wm ++ [(o, aJ G 1 f)]) kc ks := by
  refine z_aload_n X d_lw_867 rfl 1 rfl ?_
  rw [List.append_assoc]
  refine cx_callF (k := 0) (rest := []) (As := []) (μ := (fun k => ((Value.ref x :: [])[k]?).getD .null)) X k_L_96 (ac_X10_which_0 l G) (by decide) (by decide) (by decide) hx (fun ad w0 he => pre_mu (C := C_X10_which_0) (ts := []) (As := []) rfl rfl rfl rfl trivial ad w0 he) rfl d_lw_868 ⟨by decide, by decide⟩ ⟨hc, hs⟩ rfl rfl (by decide) rfl (fun r wx' hr hx' hl' hfx => ?_)
  rw [← List.append_assoc]
  rcases hr with ⟨h, -⟩ | ⟨-, v, rfl⟩ | ⟨h, -⟩
  all_goals first | (exact absurd h (by decide)) | skip
  refine z_pop X d_lw_871 rfl ?_
  refine z_aload_n X d_lw_872 rfl 2 rfl ?_
  refine mx_callF (k := 0) (wa := wx') (rest := []) (As := []) (μ := (fun k => ((Value.ref y :: [])[k]?).getD .null)) X k_L_99 (ac_X11_which_0 l G) (by decide) (by decide) hy (fun ad w0 he => pre_mu (C := C_X11_which_0) (ts := []) (As := []) rfl rfl rfl rfl trivial ad w0 he) rfl d_lw_873 ⟨by decide, by decide⟩ ⟨hc, hs⟩ rfl rfl (Nat.le_of_ble_eq_true rfl) rfl (fun r wm' hr hy' hfm => ?_)
  rcases hr with ⟨h, -⟩ | ⟨-, v, rfl⟩ | ⟨h, -⟩
  all_goals first | (exact absurd h (by decide)) | skip
  refine z_pop X d_lw_876 rfl ?_
  refine z_goto X d_lw_877 (tgt := 2192) (by decide) ?_
  exact hK wx' wm' hx' hl' hy' (RelQ.of (hR.m.keep hfx hfm (by decide)) (hR.a.keep hfx hfm (by decide)) (hR.d.keep hfx hfm (by decide)) (hR.c.keep hfx hfm (by decide)) (hR.x.keep hfx hfm (by decide)) (hR.b.keep hfx hfm (by decide)) (hR.h.keep hfx hfm (by decide)) (hR.t.keep hfx hfm (by decide)) (hR.k.keep hfx hfm (by decide)))
end LWC
