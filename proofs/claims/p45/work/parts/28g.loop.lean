/-! the law: its loop -/
section LWE
variable {p : Program} {l : Launch} {e : Env} {s : State} {m : MethodId} {below : List Frame} {meth : Method} {c : Code} {G : KG} {nm : String} {b L x y o : Nat} {xs : Nat → Int32} {i : Int32} {f : Nat → Int64} {wx wm : va_W} {kc ks : Nat}
set_option maxHeartbeats 4000000 in
theorem lw_loop {c0 s0 : Nat} (X : ZC p s m #[Value.ref b] meth c code 8 RL G (fun q : Nat => s.heap.size ≤ q) ret nm) (hX : va_X b L xs s s.heap) (hbl : b < s.heap.size) (hbA : ¬ s.heap.size ≤ b) (hE : EXs (fun q : Nat => s.heap.size ≤ q) s s.heap) (hst : l.stackTraces = false) (hL : L ≤ 5120) (hc0 : c0 + 520 ≤ 601024) (hs0 : s0 + 83600 ≤ 7293034) : ∀ (N : Nat) (i : Int32) (wx wm : va_W) (f : Nat → Int64) (kc ks j : Nat), CWx G x wx → MWx G y wm → RelQ G wx wm → 0 ≤ i.toInt → i.toInt ≤ (L : Int) → 10 * (j : Int) ≤ i.toInt → ((wx.length = 109 ∧ kc ≤ c0 + j ∧ ks ≤ s0 + 6 * j) ∨ (wx.length = 116 ∧ kc ≤ c0 + j + 7 ∧ ks ≤ s0 + 6 * j + 80434)) → ((L : Int) - i.toInt).toNat < N → Z p l e room_1 s m #[Value.ref b] below meth c 8 G (fun q : Nat => s.heap.size ≤ q) (lw_Z below #[Value.ref b] s) 23 (lv5 b x y o i) [] (wx ++ wm ++ [(o, aJ G 1 f)]) kc ks
  | 0, _, _, _, _, _, _, _, _, _, _, _, _, _, _, h9 => absurd h9 (Nat.not_lt_zero _)
  | N + 1, i, wx, wm, f, kc, ks, j, hx, hy, hR, hi0, hiL, hj, hin, h9 => by
    have rc : room_1.cells = 601024 := rfl
    have rs : room_1.slots = 7293034 := rfl
    have hlen := hx.len
    refine z_iload X d_lw_23 4 rfl ?_
    refine z_aload_n X d_lw_25 rfl 0 rfl ?_
    refine z_slen X hX hbl hbA d_lw_26 (v := nI L) rfl ?_
    refine z_bipush X d_lw_27 (v := 10) (by decide) ?_
    refine z_isub X d_lw_29 ?_
    refine zc_gt X d_lw_30 (tgt := 2198) (by decide) (a := i.toInt) (b := (L : Int) - 10) rfl (tI_sub (tI_nI (by omega)) (show (10 : Int32).toInt = 10 from by decide) (by omega)) (fun _ => ?_) (fun hle => ?_)
    · refine z_iconst X d_lw_2198 (v := 1) (by decide) ?_
      exact z_lwret X d_lw_2199 (by omega) (by omega)
    have hi1 : i.toInt + 10 ≤ (L : Int) ∧ L ≤ 5120 := ⟨by omega, hL⟩
    have on : ∀ (wx' wm' : va_W) (f' : Nat → Int64) (kc' ks' : Nat), CWx G x wx' → MWx G y wm' → RelQ G wx' wm' → ((wx'.length = 109 ∧ kc' ≤ c0 + (j + 1) ∧ ks' ≤ s0 + 6 * (j + 1)) ∨ (wx'.length = 116 ∧ kc' ≤ c0 + (j + 1) + 7 ∧ ks' ≤ s0 + 6 * (j + 1) + 80434)) → Z p l e room_1 s m #[Value.ref b] below meth c 8 G (fun q : Nat => s.heap.size ≤ q) (lw_Z below #[Value.ref b] s) 2192 (lv5 b x y o i) [] (wx' ++ wm' ++ [(o, aJ G 1 f')]) kc' ks' := by
      intro wx' wm' f' kc' ks' hx' hy' hR' hin'
      have e1 : (i + Int32.ofInt 10).toInt = i.toInt + 10 := tI_add rfl (show (Int32.ofInt 10).toInt = 10 by decide) (by omega)
      refine z_iinc X d_lw_2192 (k := 4) rfl rfl (by decide) (lv' := [(4, .int (i + Int32.ofInt 10)), (0, .ref b), (1, .ref x), (2, .ref y), (3, .ref o)]) rfl ?_
      refine z_goto X d_lw_2195 (tgt := 23) (by decide) ?_
      refine Z.mono (lw' := lv5 b x y o (i + Int32.ofInt 10)) (fun q hq => by simp only [List.mem_cons, List.not_mem_nil, or_false] at hq ⊢; rcases hq with h | h | h | h | h <;> simp [h]) ?_
      exact lw_loop X hX hbl hbA hE hst hL hc0 hs0 N (i + Int32.ofInt 10) wx' wm' f' kc' ks' (j + 1) hx' hy' hR' (by omega) (by omega) (by omega) hin' (by omega)
    have same : ∀ wx' : va_W, wx'.length = wx.length → ((wx'.length = 109 ∧ kc ≤ c0 + (j + 1) ∧ ks ≤ s0 + 6 * (j + 1)) ∨ (wx'.length = 116 ∧ kc ≤ c0 + (j + 1) + 7 ∧ ks ≤ s0 + 6 * (j + 1) + 80434)) := fun wx' h => by rw [h]; omega
    have same6 : ∀ wx' : va_W, wx'.length = wx.length → ((wx'.length = 109 ∧ (kc + 1) ≤ c0 + (j + 1) ∧ (ks + 6) ≤ s0 + 6 * (j + 1)) ∨ (wx'.length = 116 ∧ (kc + 1) ≤ c0 + (j + 1) + 7 ∧ (ks + 6) ≤ s0 + 6 * (j + 1) + 80434)) := fun wx' h => by rw [h]; omega
    have grew : ∀ (k n : Nat) (wx' : va_W), ((k = 0 ∧ n = 0 ∧ wx'.length = wx.length) ∨ (k = 7 ∧ n = 80434 ∧ wx.length = 109 ∧ wx'.length = 116)) → ((wx'.length = 109 ∧ (kc + k) ≤ c0 + (j + 1) ∧ (ks + n) ≤ s0 + 6 * (j + 1)) ∨ (wx'.length = 116 ∧ (kc + k) ≤ c0 + (j + 1) + 7 ∧ (ks + n) ≤ s0 + 6 * (j + 1) + 80434)) := fun k n wx' h => by omega
    have hc : kc ≤ room_1.cells := by rw [rc]; omega
    have hs : ks ≤ room_1.slots := by rw [rs]; omega
    refine z_aload_n X d_lw_33 rfl 0 rfl ?_
    refine z_iload X d_lw_34 4 rfl ?_
    refine z_sld X hX hbl hbA (by rw [← Int32.add_zero i]; exact lw_in hi0 hi1 (k := 0) (by decide) (by decide)) d_lw_36 (v := xs i.toNatClampNeg) rfl ?_
    refine z_bipush X d_lw_37 (v := 63) (by decide) ?_
    refine z_iand X d_lw_39 ?_
    obtain ⟨r, hr, er⟩ := pk_andE (xs i.toNatClampNeg) (m := 63) 6 (by decide +kernel)
    have hr : r < 64 := hr
    have hi : (xs i.toNatClampNeg &&& 63).toInt = (r : Int) := by rw [er]; exact tI_nI (by omega)
    by_cases h0 : r = 0
    · subst h0
      refine z_tableIn X d_lw_40 (by rw [hi]; decide) (by rw [hi]; decide) (off := 208) (by rw [hi]; rfl) (tgt := 248) (by decide) ?_
      exact lc_0 X hX hbl hbA hi0 hi1 hx hy hR hc hs (fun wx' wm' hx' hl' hy' hR' => on wx' wm' f _ _ hx' hy' hR' (same wx' hl'))
    by_cases h1 : r = 1
    · subst h1
      refine z_tableIn X d_lw_40 (by rw [hi]; decide) (by rw [hi]; decide) (off := 233) (by rw [hi]; rfl) (tgt := 273) (by decide) ?_
      exact lc_1 X hX hbl hbA hi0 hi1 hx hy hR hc hs (fun wx' wm' hx' hl' hy' hR' => on wx' wm' f _ _ hx' hy' hR' (same wx' hl'))
    by_cases h2 : r = 2
    · subst h2
      refine z_tableIn X d_lw_40 (by rw [hi]; decide) (by rw [hi]; decide) (off := 258) (by rw [hi]; rfl) (tgt := 298) (by decide) ?_
      exact lc_2 X hX hbl hbA hi0 hi1 hx hy hR hc hs (fun wx' wm' hx' hl' hy' hR' => on wx' wm' f _ _ hx' hy' hR' (same wx' hl'))
    by_cases h3 : r = 3
    · subst h3
      refine z_tableIn X d_lw_40 (by rw [hi]; decide) (by rw [hi]; decide) (off := 271) (by rw [hi]; rfl) (tgt := 311) (by decide) ?_
      exact lc_3 X hX hbl hbA hi0 hi1 hx hy hR hE hst (by rw [rc]; omega) (by rw [rs]; omega) (fun wx' wm' f' hx' hl' hy' hR' => on wx' wm' f' _ _ hx' hy' hR' (same6 wx' hl'))
    by_cases h4 : r = 4
    · subst h4
      refine z_tableIn X d_lw_40 (by rw [hi]; decide) (by rw [hi]; decide) (off := 311) (by rw [hi]; rfl) (tgt := 351) (by decide) ?_
      exact lc_4 X hX hbl hbA hi0 hi1 hx hy hR hc hs (fun wx' wm' hx' hl' hy' hR' => on wx' wm' f _ _ hx' hy' hR' (same wx' hl'))
    by_cases h5 : r = 5
    · subst h5
      refine z_tableIn X d_lw_40 (by rw [hi]; decide) (by rw [hi]; decide) (off := 348) (by rw [hi]; rfl) (tgt := 388) (by decide) ?_
      exact lc_5 X hX hbl hbA hi0 hi1 hx hy hR hc hs (fun wx' wm' hx' hl' hy' hR' => on wx' wm' f _ _ hx' hy' hR' (same wx' hl'))
    by_cases h6 : r = 6
    · subst h6
      refine z_tableIn X d_lw_40 (by rw [hi]; decide) (by rw [hi]; decide) (off := 385) (by rw [hi]; rfl) (tgt := 425) (by decide) ?_
      exact lc_6 X hX hbl hbA hi0 hi1 hx hy hR hc hs (fun wx' wm' hx' hl' hy' hR' => on wx' wm' f _ _ hx' hy' hR' (same wx' hl'))
    by_cases h7 : r = 7
    · subst h7
      refine z_tableIn X d_lw_40 (by rw [hi]; decide) (by rw [hi]; decide) (off := 446) (by rw [hi]; rfl) (tgt := 486) (by decide) ?_
      exact lc_7 X hX hbl hbA hi0 hi1 hx hy hR hc hs (fun wx' wm' hx' hl' hy' hR' => on wx' wm' f _ _ hx' hy' hR' (same wx' hl'))
    by_cases h8 : r = 8
    · subst h8
      refine z_tableIn X d_lw_40 (by rw [hi]; decide) (by rw [hi]; decide) (off := 495) (by rw [hi]; rfl) (tgt := 535) (by decide) ?_
      exact lc_8 X hX hbl hbA hi0 hi1 hx hy hR hc hs (fun wx' wm' hx' hl' hy' hR' => on wx' wm' f _ _ hx' hy' hR' (same wx' hl'))
    by_cases h9 : r = 9
    · subst h9
      refine z_tableIn X d_lw_40 (by rw [hi]; decide) (by rw [hi]; decide) (off := 544) (by rw [hi]; rfl) (tgt := 584) (by decide) ?_
      exact lc_9 X hX hbl hbA hi0 hi1 hx hy hR hc hs (fun wx' wm' hx' hl' hy' hR' => on wx' wm' f _ _ hx' hy' hR' (same wx' hl'))
    by_cases h10 : r = 10
    · subst h10
      refine z_tableIn X d_lw_40 (by rw [hi]; decide) (by rw [hi]; decide) (off := 593) (by rw [hi]; rfl) (tgt := 633) (by decide) ?_
      exact lc_10 X hX hbl hbA hi0 hi1 hx hy hR hc hs (fun wx' wm' hx' hl' hy' hR' => on wx' wm' f _ _ hx' hy' hR' (same wx' hl'))
    by_cases h11 : r = 11
    · subst h11
      refine z_tableIn X d_lw_40 (by rw [hi]; decide) (by rw [hi]; decide) (off := 630) (by rw [hi]; rfl) (tgt := 670) (by decide) ?_
      exact lc_11 X hX hbl hbA hi0 hi1 hx hy hR hc hs (fun wx' wm' hx' hl' hy' hR' => on wx' wm' f _ _ hx' hy' hR' (same wx' hl'))
    by_cases h12 : r = 12
    · subst h12
      refine z_tableIn X d_lw_40 (by rw [hi]; decide) (by rw [hi]; decide) (off := 667) (by rw [hi]; rfl) (tgt := 707) (by decide) ?_
      exact lc_12 X hX hbl hbA hi0 hi1 hx hy hR hc hs (fun wx' wm' hx' hl' hy' hR' => on wx' wm' f _ _ hx' hy' hR' (same wx' hl'))
    by_cases h13 : r = 13
    · subst h13
      refine z_tableIn X d_lw_40 (by rw [hi]; decide) (by rw [hi]; decide) (off := 704) (by rw [hi]; rfl) (tgt := 744) (by decide) ?_
      exact lc_13 X hX hbl hbA hi0 hi1 hx hy hR hc hs (fun wx' wm' hx' hl' hy' hR' => on wx' wm' f _ _ hx' hy' hR' (same wx' hl'))
    by_cases h14 : r = 14
    · subst h14
      refine z_tableIn X d_lw_40 (by rw [hi]; decide) (by rw [hi]; decide) (off := 765) (by rw [hi]; rfl) (tgt := 805) (by decide) ?_
      exact lc_14 X hX hbl hbA hi0 hi1 hx hy hR hc hs (fun wx' wm' hx' hl' hy' hR' => on wx' wm' f _ _ hx' hy' hR' (same wx' hl'))
    by_cases h15 : r = 15
    · subst h15
      refine z_tableIn X d_lw_40 (by rw [hi]; decide) (by rw [hi]; decide) (off := 814) (by rw [hi]; rfl) (tgt := 854) (by decide) ?_
      exact lc_15 X hX hbl hbA hi0 hi1 hx hy hR hc hs (fun wx' wm' hx' hl' hy' hR' => on wx' wm' f _ _ hx' hy' hR' (same wx' hl'))
    by_cases h16 : r = 16
    · subst h16
      refine z_tableIn X d_lw_40 (by rw [hi]; decide) (by rw [hi]; decide) (off := 827) (by rw [hi]; rfl) (tgt := 867) (by decide) ?_
      exact lc_16 X hX hbl hbA hi0 hi1 hx hy hR hc hs (fun wx' wm' hx' hl' hy' hR' => on wx' wm' f _ _ hx' hy' hR' (same wx' hl'))
    by_cases h17 : r = 17
    · subst h17
      refine z_tableIn X d_lw_40 (by rw [hi]; decide) (by rw [hi]; decide) (off := 840) (by rw [hi]; rfl) (tgt := 880) (by decide) ?_
      exact lc_17 X hX hbl hbA hi0 hi1 hx hy hR hc hs (fun wx' wm' hx' hl' hy' hR' => on wx' wm' f _ _ hx' hy' hR' (same wx' hl'))
    by_cases h18 : r = 18
    · subst h18
      refine z_tableIn X d_lw_40 (by rw [hi]; decide) (by rw [hi]; decide) (off := 853) (by rw [hi]; rfl) (tgt := 893) (by decide) ?_
      exact lc_18 X hX hbl hbA hi0 hi1 hx hy hR hc hs (fun wx' wm' hx' hl' hy' hR' => on wx' wm' f _ _ hx' hy' hR' (same wx' hl'))
    by_cases h19 : r = 19
    · subst h19
      refine z_tableIn X d_lw_40 (by rw [hi]; decide) (by rw [hi]; decide) (off := 890) (by rw [hi]; rfl) (tgt := 930) (by decide) ?_
      exact lc_19 X hX hbl hbA hi0 hi1 hx hy hR hc hs (fun wx' wm' hx' hl' hy' hR' => on wx' wm' f _ _ hx' hy' hR' (same wx' hl'))
    by_cases h20 : r = 20
    · subst h20
      refine z_tableIn X d_lw_40 (by rw [hi]; decide) (by rw [hi]; decide) (off := 903) (by rw [hi]; rfl) (tgt := 943) (by decide) ?_
      exact lc_20 X hX hbl hbA hi0 hi1 hx hy hR (fun h => by rw [rc, rs]; omega) hc hs (fun k n wx' wm' hx' hcost hy' hR' => on wx' wm' f _ _ hx' hy' hR' (grew k n wx' hcost))
    by_cases h21 : r = 21
    · subst h21
      refine z_tableIn X d_lw_40 (by rw [hi]; decide) (by rw [hi]; decide) (off := 940) (by rw [hi]; rfl) (tgt := 980) (by decide) ?_
      exact lc_21 X hX hbl hbA hi0 hi1 hx hy hR (fun h => by rw [rc, rs]; omega) hc hs (fun k n wx' wm' hx' hcost hy' hR' => on wx' wm' f _ _ hx' hy' hR' (grew k n wx' hcost))
    by_cases h22 : r = 22
    · subst h22
      refine z_tableIn X d_lw_40 (by rw [hi]; decide) (by rw [hi]; decide) (off := 989) (by rw [hi]; rfl) (tgt := 1029) (by decide) ?_
      exact lc_22 X hX hbl hbA hi0 hi1 hx hy hR hc hs (fun wx' wm' hx' hl' hy' hR' => on wx' wm' f _ _ hx' hy' hR' (same wx' hl'))
    by_cases h23 : r = 23
    · subst h23
      refine z_tableIn X d_lw_40 (by rw [hi]; decide) (by rw [hi]; decide) (off := 1038) (by rw [hi]; rfl) (tgt := 1078) (by decide) ?_
      exact lc_23 X hX hbl hbA hi0 hi1 hx hy hR hc hs (fun wx' wm' hx' hl' hy' hR' => on wx' wm' f _ _ hx' hy' hR' (same wx' hl'))
    by_cases h24 : r = 24
    · subst h24
      refine z_tableIn X d_lw_40 (by rw [hi]; decide) (by rw [hi]; decide) (off := 1075) (by rw [hi]; rfl) (tgt := 1115) (by decide) ?_
      exact lc_24 X hX hbl hbA hi0 hi1 hx hy hR hc hs (fun wx' wm' hx' hl' hy' hR' => on wx' wm' f _ _ hx' hy' hR' (same wx' hl'))
    by_cases h25 : r = 25
    · subst h25
      refine z_tableIn X d_lw_40 (by rw [hi]; decide) (by rw [hi]; decide) (off := 1136) (by rw [hi]; rfl) (tgt := 1176) (by decide) ?_
      exact lc_25 X hX hbl hbA hi0 hi1 hx hy hR hc hs (fun wx' wm' hx' hl' hy' hR' => on wx' wm' f _ _ hx' hy' hR' (same wx' hl'))
    by_cases h26 : r = 26
    · subst h26
      refine z_tableIn X d_lw_40 (by rw [hi]; decide) (by rw [hi]; decide) (off := 1161) (by rw [hi]; rfl) (tgt := 1201) (by decide) ?_
      exact lc_26 X hX hbl hbA hi0 hi1 hx hy hR hc hs (fun wx' wm' hx' hl' hy' hR' => on wx' wm' f _ _ hx' hy' hR' (same wx' hl'))
    by_cases h27 : r = 27
    · subst h27
      refine z_tableIn X d_lw_40 (by rw [hi]; decide) (by rw [hi]; decide) (off := 1198) (by rw [hi]; rfl) (tgt := 1238) (by decide) ?_
      exact lc_27 X hX hbl hbA hi0 hi1 hx hy hR hc hs (fun wx' wm' hx' hl' hy' hR' => on wx' wm' f _ _ hx' hy' hR' (same wx' hl'))
    by_cases h28 : r = 28
    · subst h28
      refine z_tableIn X d_lw_40 (by rw [hi]; decide) (by rw [hi]; decide) (off := 1235) (by rw [hi]; rfl) (tgt := 1275) (by decide) ?_
      exact lc_28 X hX hbl hbA hi0 hi1 hx hy hR hc hs (fun wx' wm' hx' hl' hy' hR' => on wx' wm' f _ _ hx' hy' hR' (same wx' hl'))
    by_cases h29 : r = 29
    · subst h29
      refine z_tableIn X d_lw_40 (by rw [hi]; decide) (by rw [hi]; decide) (off := 1272) (by rw [hi]; rfl) (tgt := 1312) (by decide) ?_
      exact lc_29 X hX hbl hbA hi0 hi1 hx hy hR hc hs (fun wx' wm' hx' hl' hy' hR' => on wx' wm' f _ _ hx' hy' hR' (same wx' hl'))
    by_cases h30 : r = 30
    · subst h30
      refine z_tableIn X d_lw_40 (by rw [hi]; decide) (by rw [hi]; decide) (off := 1341) (by rw [hi]; rfl) (tgt := 1381) (by decide) ?_
      exact lc_30 X hX hbl hbA hi0 hi1 hx hy hR hc hs (fun wx' wm' hx' hl' hy' hR' => on wx' wm' f _ _ hx' hy' hR' (same wx' hl'))
    by_cases h31 : r = 31
    · subst h31
      refine z_tableIn X d_lw_40 (by rw [hi]; decide) (by rw [hi]; decide) (off := 1378) (by rw [hi]; rfl) (tgt := 1418) (by decide) ?_
      exact lc_31 X hX hbl hbA hi0 hi1 hx hy hR hc hs (fun wx' wm' hx' hl' hy' hR' => on wx' wm' f _ _ hx' hy' hR' (same wx' hl'))
    by_cases h32 : r = 32
    · subst h32
      refine z_tableIn X d_lw_40 (by rw [hi]; decide) (by rw [hi]; decide) (off := 1415) (by rw [hi]; rfl) (tgt := 1455) (by decide) ?_
      exact lc_32 X hX hbl hbA hi0 hi1 hx hy hR hc hs (fun wx' wm' hx' hl' hy' hR' => on wx' wm' f _ _ hx' hy' hR' (same wx' hl'))
    by_cases h33 : r = 33
    · subst h33
      refine z_tableIn X d_lw_40 (by rw [hi]; decide) (by rw [hi]; decide) (off := 1440) (by rw [hi]; rfl) (tgt := 1480) (by decide) ?_
      exact lc_33 X hX hbl hbA hi0 hi1 hx hy hR hc hs (fun wx' wm' hx' hl' hy' hR' => on wx' wm' f _ _ hx' hy' hR' (same wx' hl'))
    by_cases h34 : r = 34
    · subst h34
      refine z_tableIn X d_lw_40 (by rw [hi]; decide) (by rw [hi]; decide) (off := 1513) (by rw [hi]; rfl) (tgt := 1553) (by decide) ?_
      exact lc_34 X hX hbl hbA hi0 hi1 hx hy hR hc hs (fun wx' wm' hx' hl' hy' hR' => on wx' wm' f _ _ hx' hy' hR' (same wx' hl'))
    by_cases h35 : r = 35
    · subst h35
      refine z_tableIn X d_lw_40 (by rw [hi]; decide) (by rw [hi]; decide) (off := 1538) (by rw [hi]; rfl) (tgt := 1578) (by decide) ?_
      exact lc_35 X hX hbl hbA hi0 hi1 hx hy hR hc hs (fun wx' wm' hx' hl' hy' hR' => on wx' wm' f _ _ hx' hy' hR' (same wx' hl'))
    by_cases h36 : r = 36
    · subst h36
      refine z_tableIn X d_lw_40 (by rw [hi]; decide) (by rw [hi]; decide) (off := 1587) (by rw [hi]; rfl) (tgt := 1627) (by decide) ?_
      exact lc_36 X hX hbl hbA hi0 hi1 hx hy hR hc hs (fun wx' wm' hx' hl' hy' hR' => on wx' wm' f _ _ hx' hy' hR' (same wx' hl'))
    by_cases h37 : r = 37
    · subst h37
      refine z_tableIn X d_lw_40 (by rw [hi]; decide) (by rw [hi]; decide) (off := 1600) (by rw [hi]; rfl) (tgt := 1640) (by decide) ?_
      exact lc_37 X hX hbl hbA hi0 hi1 hx hy hR hc hs (fun wx' wm' hx' hl' hy' hR' => on wx' wm' f _ _ hx' hy' hR' (same wx' hl'))
    by_cases h38 : r = 38
    · subst h38
      refine z_tableIn X d_lw_40 (by rw [hi]; decide) (by rw [hi]; decide) (off := 1727) (by rw [hi]; rfl) (tgt := 1767) (by decide) ?_
      exact lc_38 X hX hbl hbA hi0 hi1 hx hy hR hc hs (fun wx' wm' hx' hl' hy' hR' => on wx' wm' f _ _ hx' hy' hR' (same wx' hl'))
    by_cases h39 : r = 39
    · subst h39
      refine z_tableIn X d_lw_40 (by rw [hi]; decide) (by rw [hi]; decide) (off := 1916) (by rw [hi]; rfl) (tgt := 1956) (by decide) ?_
      exact lc_39 X hX hbl hbA hi0 hi1 hx hy hR hc hs (fun wx' wm' hx' hl' hy' hR' => on wx' wm' f _ _ hx' hy' hR' (same wx' hl'))
    by_cases h40 : r = 40
    · subst h40
      refine z_tableIn X d_lw_40 (by rw [hi]; decide) (by rw [hi]; decide) (off := 1941) (by rw [hi]; rfl) (tgt := 1981) (by decide) ?_
      exact lc_40 X hX hbl hbA hi0 hi1 hx hy hR hc hs (fun wx' wm' hx' hl' hy' hR' => on wx' wm' f _ _ hx' hy' hR' (same wx' hl'))
    by_cases h41 : r = 41
    · subst h41
      refine z_tableIn X d_lw_40 (by rw [hi]; decide) (by rw [hi]; decide) (off := 2010) (by rw [hi]; rfl) (tgt := 2050) (by decide) ?_
      exact lc_41 X hX hbl hbA hi0 hi1 hx hy hR hc hs (fun wx' wm' hx' hl' hy' hR' => on wx' wm' f _ _ hx' hy' hR' (same wx' hl'))
    by_cases h42 : r = 42
    · subst h42
      refine z_tableIn X d_lw_40 (by rw [hi]; decide) (by rw [hi]; decide) (off := 2023) (by rw [hi]; rfl) (tgt := 2063) (by decide) ?_
      exact lc_42 X hX hbl hbA hi0 hi1 hx hy hR hc hs (fun wx' wm' hx' hl' hy' hR' => on wx' wm' f _ _ hx' hy' hR' (same wx' hl'))
    by_cases h43 : r = 43
    · subst h43
      refine z_tableIn X d_lw_40 (by rw [hi]; decide) (by rw [hi]; decide) (off := 2036) (by rw [hi]; rfl) (tgt := 2076) (by decide) ?_
      exact lc_43 X hX hbl hbA hi0 hi1 hx hy hR hc hs (fun wx' wm' hx' hl' hy' hR' => on wx' wm' f _ _ hx' hy' hR' (same wx' hl'))
    by_cases h44 : r = 44
    · subst h44
      refine z_tableIn X d_lw_40 (by rw [hi]; decide) (by rw [hi]; decide) (off := 2049) (by rw [hi]; rfl) (tgt := 2089) (by decide) ?_
      exact lc_44 X hX hbl hbA hi0 hi1 hx hy hR hc hs (fun wx' wm' hx' hl' hy' hR' => on wx' wm' f _ _ hx' hy' hR' (same wx' hl'))
    by_cases h45 : r = 45
    · subst h45
      refine z_tableIn X d_lw_40 (by rw [hi]; decide) (by rw [hi]; decide) (off := 2074) (by rw [hi]; rfl) (tgt := 2114) (by decide) ?_
      exact lc_45 X hX hbl hbA hi0 hi1 hx hy hR hc hs (fun wx' wm' hx' hl' hy' hR' => on wx' wm' f _ _ hx' hy' hR' (same wx' hl'))
    by_cases h46 : r = 46
    · subst h46
      refine z_tableIn X d_lw_40 (by rw [hi]; decide) (by rw [hi]; decide) (off := 2099) (by rw [hi]; rfl) (tgt := 2139) (by decide) ?_
      exact lc_46 X hX hbl hbA hi0 hi1 hx hy hR hc hs (fun wx' wm' hx' hl' hy' hR' => on wx' wm' f _ _ hx' hy' hR' (same wx' hl'))
    by_cases h47 : r = 47
    · subst h47
      refine z_tableIn X d_lw_40 (by rw [hi]; decide) (by rw [hi]; decide) (off := 2124) (by rw [hi]; rfl) (tgt := 2164) (by decide) ?_
      exact lc_47 X hX hbl hbA hi0 hi1 hx hy hR hE hst (by rw [rc]; omega) (by rw [rs]; omega) (fun wx' wm' f' hx' hl' hy' hR' => on wx' wm' f' _ _ hx' hy' hR' (same6 wx' hl'))
    have h48 : 47 < r := (Nat.lt_of_le_of_ne (Nat.lt_of_le_of_ne (Nat.lt_of_le_of_ne (Nat.lt_of_le_of_ne (Nat.lt_of_le_of_ne (Nat.lt_of_le_of_ne (Nat.lt_of_le_of_ne (Nat.lt_of_le_of_ne (Nat.lt_of_le_of_ne (Nat.lt_of_le_of_ne (Nat.lt_of_le_of_ne (Nat.lt_of_le_of_ne (Nat.lt_of_le_of_ne (Nat.lt_of_le_of_ne (Nat.lt_of_le_of_ne (Nat.lt_of_le_of_ne (Nat.lt_of_le_of_ne (Nat.lt_of_le_of_ne (Nat.lt_of_le_of_ne (Nat.lt_of_le_of_ne (Nat.lt_of_le_of_ne (Nat.lt_of_le_of_ne (Nat.lt_of_le_of_ne (Nat.lt_of_le_of_ne (Nat.lt_of_le_of_ne (Nat.lt_of_le_of_ne (Nat.lt_of_le_of_ne (Nat.lt_of_le_of_ne (Nat.lt_of_le_of_ne (Nat.lt_of_le_of_ne (Nat.lt_of_le_of_ne (Nat.lt_of_le_of_ne (Nat.lt_of_le_of_ne (Nat.lt_of_le_of_ne (Nat.lt_of_le_of_ne (Nat.lt_of_le_of_ne (Nat.lt_of_le_of_ne (Nat.lt_of_le_of_ne (Nat.lt_of_le_of_ne (Nat.lt_of_le_of_ne (Nat.lt_of_le_of_ne (Nat.lt_of_le_of_ne (Nat.lt_of_le_of_ne (Nat.lt_of_le_of_ne (Nat.lt_of_le_of_ne (Nat.lt_of_le_of_ne (Nat.lt_of_le_of_ne (Nat.lt_of_le_of_ne (Nat.zero_le r) (fun h => h0 h.symm)) (fun h => h1 h.symm)) (fun h => h2 h.symm)) (fun h => h3 h.symm)) (fun h => h4 h.symm)) (fun h => h5 h.symm)) (fun h => h6 h.symm)) (fun h => h7 h.symm)) (fun h => h8 h.symm)) (fun h => h9 h.symm)) (fun h => h10 h.symm)) (fun h => h11 h.symm)) (fun h => h12 h.symm)) (fun h => h13 h.symm)) (fun h => h14 h.symm)) (fun h => h15 h.symm)) (fun h => h16 h.symm)) (fun h => h17 h.symm)) (fun h => h18 h.symm)) (fun h => h19 h.symm)) (fun h => h20 h.symm)) (fun h => h21 h.symm)) (fun h => h22 h.symm)) (fun h => h23 h.symm)) (fun h => h24 h.symm)) (fun h => h25 h.symm)) (fun h => h26 h.symm)) (fun h => h27 h.symm)) (fun h => h28 h.symm)) (fun h => h29 h.symm)) (fun h => h30 h.symm)) (fun h => h31 h.symm)) (fun h => h32 h.symm)) (fun h => h33 h.symm)) (fun h => h34 h.symm)) (fun h => h35 h.symm)) (fun h => h36 h.symm)) (fun h => h37 h.symm)) (fun h => h38 h.symm)) (fun h => h39 h.symm)) (fun h => h40 h.symm)) (fun h => h41 h.symm)) (fun h => h42 h.symm)) (fun h => h43 h.symm)) (fun h => h44 h.symm)) (fun h => h45 h.symm)) (fun h => h46 h.symm)) (fun h => h47 h.symm))
    clear h0 h1 h2 h3 h4 h5 h6 h7 h8 h9 h10 h11 h12 h13 h14 h15 h16 h17 h18 h19 h20 h21 h22 h23 h24 h25 h26 h27 h28 h29 h30 h31 h32 h33 h34 h35 h36 h37 h38 h39 h40 h41 h42 h43 h44 h45 h46 h47
    refine z_tableOut X d_lw_40 (by rw [hi]; omega) (tgt := 2192) (by decide) ?_
    exact on wx wm f kc ks hx hy hR (by omega)
end LWE
