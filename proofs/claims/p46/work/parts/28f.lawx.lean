/-! the law: next, enough, what is compared -/
section LWD
variable {p : Program} {l : Launch} {e : Env} {s : State} {m : MethodId} {below : List Frame} {meth : Method} {c : Code} {G : KG} {nm : String} {b L x y o : Nat} {xs : Nat → Int32} {i : Int32} {f : Nat → Int64} {wx wm : va_W} {kc ks : Nat}
theorem lc_20 (X : ZC p s m #[Value.ref b] meth c code 8 RL G (fun q : Nat => s.heap.size ≤ q) ret nm) (hX : va_X b L xs s s.heap) (hbl : b < s.heap.size) (hbA : ¬ s.heap.size ≤ b) (hi0 : 0 ≤ i.toInt) (hi1 : i.toInt + 10 ≤ (L : Int) ∧ L ≤ 5120) (hx : CWx G x wx) (hy : MWx G y wm) (hbud : wx.length = 109 → kc + 7 ≤ room_1.cells ∧ ks + 80434 ≤ room_1.slots) (hc : kc ≤ room_1.cells) (hs : ks ≤ room_1.slots) (hK : ∀ (k n : Nat) (wx' wm' : va_W), CWx G x wx' → ((k = 0 ∧ n = 0 ∧ wx'.length = wx.length) ∨ (k = 7 ∧ n = 80434 ∧ wx.length = 109 ∧ wx'.length = 116)) → MWx G y wm' → Z p l e room_1 s m #[Value.ref b] below meth c 8 G (fun q : Nat => s.heap.size ≤ q) (lw_Z below #[Value.ref b] s) 2192 (lv5 b x y o i) [] (wx' ++ wm' ++ [(o, aJ G 1 f)]) (kc + k) (ks + n)) : Z p l e room_1 s m #[Value.ref b] below meth c 8 G (fun q : Nat => s.heap.size ≤ q) (lw_Z below #[Value.ref b] s) 943 (lv5 b x y o i) [] (wx ++ wm ++ [(o, aJ G 1 f)]) kc ks := by
  refine z_aload_n X d_lw_943 rfl 1 rfl ?_
  refine z_aload_n X d_lw_944 rfl 0 rfl ?_
  refine z_iload X d_lw_945 4 rfl ?_
  refine z_iconst X d_lw_947 (v := 1) (by decide) ?_
  refine z_iadd X d_lw_948 ?_
  refine z_sld X hX hbl hbA (lw_in hi0 hi1 (k := 1) (by decide) (by decide)) d_lw_949 (v := xs (i + 1).toNatClampNeg) rfl ?_
  refine z_aload_n X d_lw_950 rfl 0 rfl ?_
  refine z_iload X d_lw_951 4 rfl ?_
  refine z_iconst X d_lw_953 (v := 2) (by decide) ?_
  refine z_iadd X d_lw_954 ?_
  refine z_sld X hX hbl hbA (lw_in hi0 hi1 (k := 2) (by decide) (by decide)) d_lw_955 (v := xs (i + 2).toNatClampNeg) rfl ?_
  rw [List.append_assoc]
  refine cx_growV (rN := rm_nx 7 80434) (rR := rm_nx 0 0) (rest := []) (As := [.int (xs (i + 1).toNatClampNeg), .int (xs (i + 2).toNatClampNeg)]) X k_L_112 (fun ad w0 h1 h2 h3 => ac_nxV l G (xs (i + 1).toNatClampNeg) (xs (i + 2).toNatClampNeg) h1 h2 h3) (fun ad w0 h1 h2 h3 => ac_nxR l G (xs (i + 1).toNatClampNeg) (xs (i + 2).toNatClampNeg) h1 h2 h3) hx d_lw_956 ⟨by decide, by decide⟩ ⟨by decide, by decide⟩ hbud ⟨hc, hs⟩ ⟨rfl, rfl⟩ rfl rfl (by decide) rfl (fun k n v wx' hx' hcost => ?_)
  rw [← List.append_assoc]
  have hcs : kc + k ≤ room_1.cells ∧ ks + n ≤ room_1.slots := by
    rcases hcost with ⟨rfl, rfl, -⟩ | ⟨rfl, rfl, h, -⟩
    · exact ⟨hc, hs⟩
    · exact hbud h
  refine z_pop X d_lw_959 rfl ?_
  refine z_aload_n X d_lw_960 rfl 2 rfl ?_
  refine z_aload_n X d_lw_961 rfl 0 rfl ?_
  refine z_iload X d_lw_962 4 rfl ?_
  refine z_iconst X d_lw_964 (v := 1) (by decide) ?_
  refine z_iadd X d_lw_965 ?_
  refine z_sld X hX hbl hbA (lw_in hi0 hi1 (k := 1) (by decide) (by decide)) d_lw_966 (v := xs (i + 1).toNatClampNeg) rfl ?_
  refine z_aload_n X d_lw_967 rfl 0 rfl ?_
  refine z_iload X d_lw_968 4 rfl ?_
  refine z_iconst X d_lw_970 (v := 2) (by decide) ?_
  refine z_iadd X d_lw_971 ?_
  refine z_sld X hX hbl hbA (lw_in hi0 hi1 (k := 2) (by decide) (by decide)) d_lw_972 (v := xs (i + 2).toNatClampNeg) rfl ?_
  refine mx_callV (k := 0) (wa := wx') (rest := []) (As := [.int (xs (i + 1).toNatClampNeg), .int (xs (i + 2).toNatClampNeg)]) X k_L_115 (ac_X11_next_0 l G) (by decide) (by decide) hy (fun ad w0 he => pre_args (C := C_X11_next_0) (ts := [tI0, tI0]) (As := [.int (xs (i + 1).toNatClampNeg), .int (xs (i + 2).toNatClampNeg)]) rfl rfl rfl ⟨fun _ => vty_i0 _, fun _ => vty_i0 _, trivial⟩ ad w0 he) d_lw_973 ⟨by decide, by decide⟩ hcs rfl rfl (by decide) rfl (fun r wm' hr hy' => ?_)
  rcases hr with ⟨h, -⟩ | ⟨-, v2, rfl⟩ | ⟨h, -⟩
  all_goals first | (exact absurd h (by decide)) | skip
  refine z_pop X d_lw_976 rfl ?_
  refine z_goto X d_lw_977 (tgt := 2192) (by decide) ?_
  exact hK k n wx' wm' hx' hcost hy'
theorem lc_21 (X : ZC p s m #[Value.ref b] meth c code 8 RL G (fun q : Nat => s.heap.size ≤ q) ret nm) (hX : va_X b L xs s s.heap) (hbl : b < s.heap.size) (hbA : ¬ s.heap.size ≤ b) (hi0 : 0 ≤ i.toInt) (hi1 : i.toInt + 10 ≤ (L : Int) ∧ L ≤ 5120) (hx : CWx G x wx) (hy : MWx G y wm) (hbud : wx.length = 109 → kc + 7 ≤ room_1.cells ∧ ks + 80434 ≤ room_1.slots) (hc : kc ≤ room_1.cells) (hs : ks ≤ room_1.slots) (hK : ∀ (k n : Nat) (wx' wm' : va_W), CWx G x wx' → ((k = 0 ∧ n = 0 ∧ wx'.length = wx.length) ∨ (k = 7 ∧ n = 80434 ∧ wx.length = 109 ∧ wx'.length = 116)) → MWx G y wm' → Z p l e room_1 s m #[Value.ref b] below meth c 8 G (fun q : Nat => s.heap.size ≤ q) (lw_Z below #[Value.ref b] s) 2192 (lv5 b x y o i) [] (wx' ++ wm' ++ [(o, aJ G 1 f)]) (kc + k) (ks + n)) : Z p l e room_1 s m #[Value.ref b] below meth c 8 G (fun q : Nat => s.heap.size ≤ q) (lw_Z below #[Value.ref b] s) 980 (lv5 b x y o i) [] (wx ++ wm ++ [(o, aJ G 1 f)]) kc ks := by
  refine z_aload_n X d_lw_980 rfl 1 rfl ?_
  refine z_aload_n X d_lw_981 rfl 0 rfl ?_
  refine z_iload X d_lw_982 4 rfl ?_
  refine z_iconst X d_lw_984 (v := 1) (by decide) ?_
  refine z_iadd X d_lw_985 ?_
  refine z_sld X hX hbl hbA (lw_in hi0 hi1 (k := 1) (by decide) (by decide)) d_lw_986 (v := xs (i + 1).toNatClampNeg) rfl ?_
  refine z_aload_n X d_lw_987 rfl 0 rfl ?_
  refine z_iload X d_lw_988 4 rfl ?_
  refine z_iconst X d_lw_990 (v := 2) (by decide) ?_
  refine z_iadd X d_lw_991 ?_
  refine z_sld X hX hbl hbA (lw_in hi0 hi1 (k := 2) (by decide) (by decide)) d_lw_992 (v := xs (i + 2).toNatClampNeg) rfl ?_
  refine z_aload_n X d_lw_993 rfl 0 rfl ?_
  refine z_iload X d_lw_994 4 rfl ?_
  refine z_iconst X d_lw_996 (v := 3) (by decide) ?_
  refine z_iadd X d_lw_997 ?_
  refine z_sld X hX hbl hbA (lw_in hi0 hi1 (k := 3) (by decide) (by decide)) d_lw_998 (v := xs (i + 3).toNatClampNeg) rfl ?_
  rw [List.append_assoc]
  refine cx_growV (rN := rm_en 7 80434) (rR := rm_en 0 0) (rest := []) (As := [.int (xs (i + 1).toNatClampNeg), .int (xs (i + 2).toNatClampNeg), .int (xs (i + 3).toNatClampNeg)]) X k_L_116 (fun ad w0 h1 h2 h3 => ac_enV l G (xs (i + 1).toNatClampNeg) (xs (i + 2).toNatClampNeg) (xs (i + 3).toNatClampNeg) h1 h2 h3) (fun ad w0 h1 h2 h3 => ac_enR l G (xs (i + 1).toNatClampNeg) (xs (i + 2).toNatClampNeg) (xs (i + 3).toNatClampNeg) h1 h2 h3) hx d_lw_999 ⟨by decide, by decide⟩ ⟨by decide, by decide⟩ hbud ⟨hc, hs⟩ ⟨rfl, rfl⟩ rfl rfl (by decide) rfl (fun k n v wx' hx' hcost => ?_)
  rw [← List.append_assoc]
  have hcs : kc + k ≤ room_1.cells ∧ ks + n ≤ room_1.slots := by
    rcases hcost with ⟨rfl, rfl, -⟩ | ⟨rfl, rfl, h, -⟩
    · exact ⟨hc, hs⟩
    · exact hbud h
  refine z_pop X d_lw_1002 rfl ?_
  refine z_aload_n X d_lw_1003 rfl 2 rfl ?_
  refine z_aload_n X d_lw_1004 rfl 0 rfl ?_
  refine z_iload X d_lw_1005 4 rfl ?_
  refine z_iconst X d_lw_1007 (v := 1) (by decide) ?_
  refine z_iadd X d_lw_1008 ?_
  refine z_sld X hX hbl hbA (lw_in hi0 hi1 (k := 1) (by decide) (by decide)) d_lw_1009 (v := xs (i + 1).toNatClampNeg) rfl ?_
  refine z_aload_n X d_lw_1010 rfl 0 rfl ?_
  refine z_iload X d_lw_1011 4 rfl ?_
  refine z_iconst X d_lw_1013 (v := 2) (by decide) ?_
  refine z_iadd X d_lw_1014 ?_
  refine z_sld X hX hbl hbA (lw_in hi0 hi1 (k := 2) (by decide) (by decide)) d_lw_1015 (v := xs (i + 2).toNatClampNeg) rfl ?_
  refine z_aload_n X d_lw_1016 rfl 0 rfl ?_
  refine z_iload X d_lw_1017 4 rfl ?_
  refine z_iconst X d_lw_1019 (v := 3) (by decide) ?_
  refine z_iadd X d_lw_1020 ?_
  refine z_sld X hX hbl hbA (lw_in hi0 hi1 (k := 3) (by decide) (by decide)) d_lw_1021 (v := xs (i + 3).toNatClampNeg) rfl ?_
  refine mx_callV (k := 0) (wa := wx') (rest := []) (As := [.int (xs (i + 1).toNatClampNeg), .int (xs (i + 2).toNatClampNeg), .int (xs (i + 3).toNatClampNeg)]) X k_L_119 (ac_X11_enough_0 l G) (by decide) (by decide) hy (fun ad w0 he => pre_args (C := C_X11_enough_0) (ts := [tI0, tI0, tI0]) (As := [.int (xs (i + 1).toNatClampNeg), .int (xs (i + 2).toNatClampNeg), .int (xs (i + 3).toNatClampNeg)]) rfl rfl rfl ⟨fun _ => vty_i0 _, fun _ => vty_i0 _, fun _ => vty_i0 _, trivial⟩ ad w0 he) d_lw_1022 ⟨by decide, by decide⟩ hcs rfl rfl (by decide) rfl (fun r wm' hr hy' => ?_)
  rcases hr with ⟨h, -⟩ | ⟨-, v2, rfl⟩ | ⟨h, -⟩
  all_goals first | (exact absurd h (by decide)) | skip
  refine z_pop X d_lw_1025 rfl ?_
  refine z_goto X d_lw_1026 (tgt := 2192) (by decide) ?_
  exact hK k n wx' wm' hx' hcost hy'
theorem lc_44 (X : ZC p s m #[Value.ref b] meth c code 8 RL G (fun q : Nat => s.heap.size ≤ q) ret nm) (hX : va_X b L xs s s.heap) (hbl : b < s.heap.size) (hbA : ¬ s.heap.size ≤ b) (hi0 : 0 ≤ i.toInt) (hi1 : i.toInt + 10 ≤ (L : Int) ∧ L ≤ 5120) (hx : CWx G x wx) (hy : MWx G y wm) (hc : kc ≤ room_1.cells) (hs : ks ≤ room_1.slots) (hK : ∀ wx' wm', CWx G x wx' → wx'.length = wx.length → MWx G y wm' → Z p l e room_1 s m #[Value.ref b] below meth c 8 G (fun q : Nat => s.heap.size ≤ q) (lw_Z below #[Value.ref b] s) 2192 (lv5 b x y o i) [] (wx' ++ wm' ++ [(o, aJ G 1 f)]) kc ks) : Z p l e room_1 s m #[Value.ref b] below meth c 8 G (fun q : Nat => s.heap.size ≤ q) (lw_Z below #[Value.ref b] s) 2089 (lv5 b x y o i) [] (wx ++ wm ++ [(o, aJ G 1 f)]) kc ks := by
  refine z_aload_n X d_lw_2089 rfl 1 rfl ?_
  refine z_aload_n X d_lw_2090 rfl 0 rfl ?_
  refine z_iload X d_lw_2091 4 rfl ?_
  refine z_iconst X d_lw_2093 (v := 1) (by decide) ?_
  refine z_iadd X d_lw_2094 ?_
  refine z_sld X hX hbl hbA (lw_in hi0 hi1 (k := 1) (by decide) (by decide)) d_lw_2095 (v := xs (i + 1).toNatClampNeg) rfl ?_
  rcases (by omega : (xs (i + 1).toNatClampNeg).toInt ≤ -1 ∨ (xs (i + 1).toNatClampNeg).toInt = 0 ∨ (xs (i + 1).toNatClampNeg).toInt = 1 ∨ (xs (i + 1).toNatClampNeg).toInt = 2 ∨ 3 ≤ (xs (i + 1).toNatClampNeg).toInt) with ha | ha | ha | ha | ha
  · skip
    rw [List.append_assoc]
    refine cx_callE (k := 0) (rest := []) (As := [.int (xs (i + 1).toNatClampNeg)]) X k_L_216 (ac_u_X10_keep_1 l G) (by decide) (by decide) hx (fun ad w0 he => pre_args (C := C_u_X10_keep_1) (ts := [(0, -2147483648, -1)]) (As := [.int (xs (i + 1).toNatClampNeg)]) rfl rfl rfl ⟨fun _ => vty_i (i32_lo _) (by omega), trivial⟩ ad w0 he) d_lw_2096 ⟨by decide, by decide⟩ ⟨hc, hs⟩ rfl rfl (by decide) rfl (fun r wx' hr hx' hl' => ?_)
    rw [← List.append_assoc]
    obtain ⟨v, rfl, ev⟩ := hr
    refine z_aload_n X d_lw_2099 rfl 2 rfl ?_
    refine z_aload_n X d_lw_2100 rfl 0 rfl ?_
    refine z_iload X d_lw_2101 4 rfl ?_
    refine z_iconst X d_lw_2103 (v := 1) (by decide) ?_
    refine z_iadd X d_lw_2104 ?_
    refine z_sld X hX hbl hbA (lw_in hi0 hi1 (k := 1) (by decide) (by decide)) d_lw_2105 (v := xs (i + 1).toNatClampNeg) rfl ?_
    refine mx_callE (k := 0) (wa := wx') (rest := [.int v]) (As := [.int (xs (i + 1).toNatClampNeg)]) X k_L_219 (ac_X11_keep_0 l G) (by decide) hy (fun ad w0 he => pre_args (C := C_X11_keep_0) (ts := [(0, -2147483648, -1)]) (As := [.int (xs (i + 1).toNatClampNeg)]) rfl rfl rfl ⟨fun _ => vty_i (i32_lo _) (by omega), trivial⟩ ad w0 he) d_lw_2106 ⟨by decide, by decide⟩ ⟨hc, hs⟩ rfl rfl (Nat.le_of_ble_eq_true rfl) rfl (fun r wm' hr hy' => ?_)
    obtain ⟨v2, rfl, ev2⟩ := hr
    refine zc_eq X d_lw_2109 (tgt := 2192) (by decide) (a := v.toInt) (b := v2.toInt) rfl rfl (fun _ => ?_) (fun h => absurd (ev.trans ev2.symm) h)
    exact hK wx' wm' hx' hl' hy'
  · skip
    rw [List.append_assoc]
    refine cx_callE (k := 1) (rest := []) (As := [.int (xs (i + 1).toNatClampNeg)]) X k_L_216 (ac_u_X10_keep_0 l G) (by decide) (by decide) hx (fun ad w0 he => pre_args (C := C_u_X10_keep_0) (ts := [(0, 0, 2)]) (As := [.int (xs (i + 1).toNatClampNeg)]) rfl rfl rfl ⟨fun _ => vty_i (by omega) (by omega), trivial⟩ ad w0 he) d_lw_2096 ⟨by decide, by decide⟩ ⟨hc, hs⟩ rfl rfl (by decide) rfl (fun r wx' hr hx' hl' => ?_)
    rw [← List.append_assoc]
    obtain ⟨v, rfl, ev⟩ := hr
    refine z_aload_n X d_lw_2099 rfl 2 rfl ?_
    refine z_aload_n X d_lw_2100 rfl 0 rfl ?_
    refine z_iload X d_lw_2101 4 rfl ?_
    refine z_iconst X d_lw_2103 (v := 1) (by decide) ?_
    refine z_iadd X d_lw_2104 ?_
    refine z_sld X hX hbl hbA (lw_in hi0 hi1 (k := 1) (by decide) (by decide)) d_lw_2105 (v := xs (i + 1).toNatClampNeg) rfl ?_
    refine mx_callE (k := 1) (wa := wx') (rest := [.int v]) (As := [.int (xs (i + 1).toNatClampNeg)]) X k_L_219 (ac_X11_keep_1 l G) (by decide) hy (fun ad w0 he => pre_args (C := C_X11_keep_1) (ts := [(0, 0, 0)]) (As := [.int (xs (i + 1).toNatClampNeg)]) rfl rfl rfl ⟨fun _ => vty_i (by omega) (by omega), trivial⟩ ad w0 he) d_lw_2106 ⟨by decide, by decide⟩ ⟨hc, hs⟩ rfl rfl (Nat.le_of_ble_eq_true rfl) rfl (fun r wm' hr hy' => ?_)
    obtain ⟨v2, rfl, ev2⟩ := hr
    refine zc_eq X d_lw_2109 (tgt := 2192) (by decide) (a := v.toInt) (b := v2.toInt) rfl rfl (fun _ => ?_) (fun h => absurd (ev.trans ev2.symm) h)
    exact hK wx' wm' hx' hl' hy'
  · skip
    rw [List.append_assoc]
    refine cx_callE (k := 1) (rest := []) (As := [.int (xs (i + 1).toNatClampNeg)]) X k_L_216 (ac_u_X10_keep_0 l G) (by decide) (by decide) hx (fun ad w0 he => pre_args (C := C_u_X10_keep_0) (ts := [(0, 0, 2)]) (As := [.int (xs (i + 1).toNatClampNeg)]) rfl rfl rfl ⟨fun _ => vty_i (by omega) (by omega), trivial⟩ ad w0 he) d_lw_2096 ⟨by decide, by decide⟩ ⟨hc, hs⟩ rfl rfl (by decide) rfl (fun r wx' hr hx' hl' => ?_)
    rw [← List.append_assoc]
    obtain ⟨v, rfl, ev⟩ := hr
    refine z_aload_n X d_lw_2099 rfl 2 rfl ?_
    refine z_aload_n X d_lw_2100 rfl 0 rfl ?_
    refine z_iload X d_lw_2101 4 rfl ?_
    refine z_iconst X d_lw_2103 (v := 1) (by decide) ?_
    refine z_iadd X d_lw_2104 ?_
    refine z_sld X hX hbl hbA (lw_in hi0 hi1 (k := 1) (by decide) (by decide)) d_lw_2105 (v := xs (i + 1).toNatClampNeg) rfl ?_
    refine mx_callE (k := 1) (wa := wx') (rest := [.int v]) (As := [.int (xs (i + 1).toNatClampNeg)]) X k_L_219 (ac_X11_keep_2 l G) (by decide) hy (fun ad w0 he => pre_args (C := C_X11_keep_2) (ts := [(0, 1, 1)]) (As := [.int (xs (i + 1).toNatClampNeg)]) rfl rfl rfl ⟨fun _ => vty_i (by omega) (by omega), trivial⟩ ad w0 he) d_lw_2106 ⟨by decide, by decide⟩ ⟨hc, hs⟩ rfl rfl (Nat.le_of_ble_eq_true rfl) rfl (fun r wm' hr hy' => ?_)
    obtain ⟨v2, rfl, ev2⟩ := hr
    refine zc_eq X d_lw_2109 (tgt := 2192) (by decide) (a := v.toInt) (b := v2.toInt) rfl rfl (fun _ => ?_) (fun h => absurd (ev.trans ev2.symm) h)
    exact hK wx' wm' hx' hl' hy'
  · skip
    rw [List.append_assoc]
    refine cx_callE (k := 1) (rest := []) (As := [.int (xs (i + 1).toNatClampNeg)]) X k_L_216 (ac_u_X10_keep_0 l G) (by decide) (by decide) hx (fun ad w0 he => pre_args (C := C_u_X10_keep_0) (ts := [(0, 0, 2)]) (As := [.int (xs (i + 1).toNatClampNeg)]) rfl rfl rfl ⟨fun _ => vty_i (by omega) (by omega), trivial⟩ ad w0 he) d_lw_2096 ⟨by decide, by decide⟩ ⟨hc, hs⟩ rfl rfl (by decide) rfl (fun r wx' hr hx' hl' => ?_)
    rw [← List.append_assoc]
    obtain ⟨v, rfl, ev⟩ := hr
    refine z_aload_n X d_lw_2099 rfl 2 rfl ?_
    refine z_aload_n X d_lw_2100 rfl 0 rfl ?_
    refine z_iload X d_lw_2101 4 rfl ?_
    refine z_iconst X d_lw_2103 (v := 1) (by decide) ?_
    refine z_iadd X d_lw_2104 ?_
    refine z_sld X hX hbl hbA (lw_in hi0 hi1 (k := 1) (by decide) (by decide)) d_lw_2105 (v := xs (i + 1).toNatClampNeg) rfl ?_
    refine mx_callE (k := 1) (wa := wx') (rest := [.int v]) (As := [.int (xs (i + 1).toNatClampNeg)]) X k_L_219 (ac_X11_keep_3 l G) (by decide) hy (fun ad w0 he => pre_args (C := C_X11_keep_3) (ts := [(0, 2, 2)]) (As := [.int (xs (i + 1).toNatClampNeg)]) rfl rfl rfl ⟨fun _ => vty_i (by omega) (by omega), trivial⟩ ad w0 he) d_lw_2106 ⟨by decide, by decide⟩ ⟨hc, hs⟩ rfl rfl (Nat.le_of_ble_eq_true rfl) rfl (fun r wm' hr hy' => ?_)
    obtain ⟨v2, rfl, ev2⟩ := hr
    refine zc_eq X d_lw_2109 (tgt := 2192) (by decide) (a := v.toInt) (b := v2.toInt) rfl rfl (fun _ => ?_) (fun h => absurd (ev.trans ev2.symm) h)
    exact hK wx' wm' hx' hl' hy'
  · skip
    rw [List.append_assoc]
    refine cx_callE (k := 0) (rest := []) (As := [.int (xs (i + 1).toNatClampNeg)]) X k_L_216 (ac_u_X10_keep_2 l G) (by decide) (by decide) hx (fun ad w0 he => pre_args (C := C_u_X10_keep_2) (ts := [(0, 3, 2147483647)]) (As := [.int (xs (i + 1).toNatClampNeg)]) rfl rfl rfl ⟨fun _ => vty_i (by omega) (i32_hi _), trivial⟩ ad w0 he) d_lw_2096 ⟨by decide, by decide⟩ ⟨hc, hs⟩ rfl rfl (by decide) rfl (fun r wx' hr hx' hl' => ?_)
    rw [← List.append_assoc]
    obtain ⟨v, rfl, ev⟩ := hr
    refine z_aload_n X d_lw_2099 rfl 2 rfl ?_
    refine z_aload_n X d_lw_2100 rfl 0 rfl ?_
    refine z_iload X d_lw_2101 4 rfl ?_
    refine z_iconst X d_lw_2103 (v := 1) (by decide) ?_
    refine z_iadd X d_lw_2104 ?_
    refine z_sld X hX hbl hbA (lw_in hi0 hi1 (k := 1) (by decide) (by decide)) d_lw_2105 (v := xs (i + 1).toNatClampNeg) rfl ?_
    refine mx_callE (k := 0) (wa := wx') (rest := [.int v]) (As := [.int (xs (i + 1).toNatClampNeg)]) X k_L_219 (ac_X11_keep_4 l G) (by decide) hy (fun ad w0 he => pre_args (C := C_X11_keep_4) (ts := [(0, 3, 2147483647)]) (As := [.int (xs (i + 1).toNatClampNeg)]) rfl rfl rfl ⟨fun _ => vty_i (by omega) (i32_hi _), trivial⟩ ad w0 he) d_lw_2106 ⟨by decide, by decide⟩ ⟨hc, hs⟩ rfl rfl (Nat.le_of_ble_eq_true rfl) rfl (fun r wm' hr hy' => ?_)
    obtain ⟨v2, rfl, ev2⟩ := hr
    refine zc_eq X d_lw_2109 (tgt := 2192) (by decide) (a := v.toInt) (b := v2.toInt) rfl rfl (fun _ => ?_) (fun h => absurd (ev.trans ev2.symm) h)
    exact hK wx' wm' hx' hl' hy'
end LWD
