/-! the law: its cases, the relation kept -/
section LWC
variable {p : Program} {l : Launch} {e : Env} {s : State} {m : MethodId} {below : List Frame} {meth : Method} {c : Code} {G : KG} {nm : String} {b L x y o : Nat} {xs : Nat → Int32} {i : Int32} {f : Nat → Int64} {wx wm : va_W} {kc ks : Nat}
theorem lc_17 (X : ZC p s m #[Value.ref b] meth c code 8 RL G (fun q : Nat => s.heap.size ≤ q) ret nm) (hX : va_X b L xs s s.heap) (hbl : b < s.heap.size) (hbA : ¬ s.heap.size ≤ b) (hi0 : 0 ≤ i.toInt) (hi1 : i.toInt + 10 ≤ (L : Int) ∧ L ≤ 5120) (hx : CWx G x wx) (hy : MWx G y wm) (hR : RelQ G wx wm) (hc : kc ≤ room_1.cells) (hs : ks ≤ room_1.slots) (hK : ∀ wx' wm', CWx G x wx' → wx'.length = wx.length → MWx G y wm' → RelQ G wx' wm' → Z p l e room_1 s m #[Value.ref b] below meth c 8 G (fun q : Nat => s.heap.size ≤ q) (lw_Z below #[Value.ref b] s) 2192 (lv5 b x y o i) [] (wx' ++ wm' ++ [(o, aJ G 1 f)]) kc ks) : Z p l e room_1 s m #[Value.ref b] below meth c 8 G (fun q : Nat => s.heap.size ≤ q) (lw_Z below #[Value.ref b] s) 880 (lv5 b x y o i) [] (wx ++ wm ++ [(o, aJ G 1 f)]) kc ks := by
  refine z_aload_n X d_lw_880 rfl 1 rfl ?_
  rw [List.append_assoc]
  refine cx_callF (k := 0) (rest := []) (As := []) (μ := (fun k => ((Value.ref x :: [])[k]?).getD .null)) X k_L_100 (ac_X10_ends_0 l G) (by decide) (by decide) (by decide) hx (fun ad w0 he => pre_mu (C := C_X10_ends_0) (ts := []) (As := []) rfl rfl rfl rfl trivial ad w0 he) rfl d_lw_881 ⟨by decide, by decide⟩ ⟨hc, hs⟩ rfl rfl (by decide) rfl (fun r wx' hr hx' hl' hfx => ?_)
  rw [← List.append_assoc]
  rcases hr with ⟨h, -⟩ | ⟨-, v, rfl⟩ | ⟨h, -⟩
  all_goals first | (exact absurd h (by decide)) | skip
  refine z_pop X d_lw_884 rfl ?_
  refine z_aload_n X d_lw_885 rfl 2 rfl ?_
  refine mx_callF (k := 0) (wa := wx') (rest := []) (As := []) (μ := (fun k => ((Value.ref y :: [])[k]?).getD .null)) X k_L_103 (ac_X11_ends_0 l G) (by decide) (by decide) hy (fun ad w0 he => pre_mu (C := C_X11_ends_0) (ts := []) (As := []) rfl rfl rfl rfl trivial ad w0 he) rfl d_lw_886 ⟨by decide, by decide⟩ ⟨hc, hs⟩ rfl rfl (Nat.le_of_ble_eq_true rfl) rfl (fun r wm' hr hy' hfm => ?_)
  rcases hr with ⟨h, -⟩ | ⟨-, v, rfl⟩ | ⟨h, -⟩
  all_goals first | (exact absurd h (by decide)) | skip
  refine z_pop X d_lw_889 rfl ?_
  refine z_goto X d_lw_890 (tgt := 2192) (by decide) ?_
  exact hK wx' wm' hx' hl' hy' (RelQ.of (hR.m.keep hfx hfm (by decide)) (hR.a.keep hfx hfm (by decide)) (hR.d.keep hfx hfm (by decide)) (hR.c.keep hfx hfm (by decide)) (hR.x.keep hfx hfm (by decide)) (hR.b.keep hfx hfm (by decide)) (hR.h.keep hfx hfm (by decide)) (hR.t.keep hfx hfm (by decide)) (hR.k.keep hfx hfm (by decide)))
theorem lc_18 (X : ZC p s m #[Value.ref b] meth c code 8 RL G (fun q : Nat => s.heap.size ≤ q) ret nm) (hX : va_X b L xs s s.heap) (hbl : b < s.heap.size) (hbA : ¬ s.heap.size ≤ b) (hi0 : 0 ≤ i.toInt) (hi1 : i.toInt + 10 ≤ (L : Int) ∧ L ≤ 5120) (hx : CWx G x wx) (hy : MWx G y wm) (hR : RelQ G wx wm) (hc : kc ≤ room_1.cells) (hs : ks ≤ room_1.slots) (hK : ∀ wx' wm', CWx G x wx' → wx'.length = wx.length → MWx G y wm' → RelQ G wx' wm' → Z p l e room_1 s m #[Value.ref b] below meth c 8 G (fun q : Nat => s.heap.size ≤ q) (lw_Z below #[Value.ref b] s) 2192 (lv5 b x y o i) [] (wx' ++ wm' ++ [(o, aJ G 1 f)]) kc ks) : Z p l e room_1 s m #[Value.ref b] below meth c 8 G (fun q : Nat => s.heap.size ≤ q) (lw_Z below #[Value.ref b] s) 893 (lv5 b x y o i) [] (wx ++ wm ++ [(o, aJ G 1 f)]) kc ks := by
  refine z_aload_n X d_lw_893 rfl 1 rfl ?_
  refine z_aload_n X d_lw_894 rfl 0 rfl ?_
  refine z_iload X d_lw_895 4 rfl ?_
  refine z_iconst X d_lw_897 (v := 1) (by decide) ?_
  refine z_iadd X d_lw_898 ?_
  refine z_sld X hX hbl hbA (lw_in hi0 hi1 (k := 1) (by decide) (by decide)) d_lw_899 (v := xs (i + 1).toNatClampNeg) rfl ?_
  refine z_aload_n X d_lw_900 rfl 0 rfl ?_
  refine z_iload X d_lw_901 4 rfl ?_
  refine z_iconst X d_lw_903 (v := 2) (by decide) ?_
  refine z_iadd X d_lw_904 ?_
  refine z_sld X hX hbl hbA (lw_in hi0 hi1 (k := 2) (by decide) (by decide)) d_lw_905 (v := xs (i + 2).toNatClampNeg) rfl ?_
  rw [List.append_assoc]
  refine cx_callF (k := 0) (rest := []) (As := [.int (xs (i + 1).toNatClampNeg), .int (xs (i + 2).toNatClampNeg)]) (μ := (fun k => ((Value.ref x :: [.int (xs (i + 1).toNatClampNeg), .int (xs (i + 2).toNatClampNeg)])[k]?).getD .null)) X k_L_104 (ac_X10_judge_0 l G) (by decide) (by decide) (by decide) hx (fun ad w0 he => pre_mu (C := C_X10_judge_0) (ts := [tI0, tI0]) (As := [.int (xs (i + 1).toNatClampNeg), .int (xs (i + 2).toNatClampNeg)]) rfl rfl rfl rfl ⟨fun _ => vty_i0 _, fun _ => vty_i0 _, trivial⟩ ad w0 he) rfl d_lw_906 ⟨by decide, by decide⟩ ⟨hc, hs⟩ rfl rfl (by decide) rfl (fun r wx' hr hx' hl' hfx => ?_)
  rw [← List.append_assoc]
  rcases hr with ⟨h, -⟩ | ⟨-, v, rfl⟩ | ⟨h, -⟩
  all_goals first | (exact absurd h (by decide)) | skip
  refine z_pop X d_lw_909 rfl ?_
  refine z_aload_n X d_lw_910 rfl 2 rfl ?_
  refine z_aload_n X d_lw_911 rfl 0 rfl ?_
  refine z_iload X d_lw_912 4 rfl ?_
  refine z_iconst X d_lw_914 (v := 1) (by decide) ?_
  refine z_iadd X d_lw_915 ?_
  refine z_sld X hX hbl hbA (lw_in hi0 hi1 (k := 1) (by decide) (by decide)) d_lw_916 (v := xs (i + 1).toNatClampNeg) rfl ?_
  refine z_aload_n X d_lw_917 rfl 0 rfl ?_
  refine z_iload X d_lw_918 4 rfl ?_
  refine z_iconst X d_lw_920 (v := 2) (by decide) ?_
  refine z_iadd X d_lw_921 ?_
  refine z_sld X hX hbl hbA (lw_in hi0 hi1 (k := 2) (by decide) (by decide)) d_lw_922 (v := xs (i + 2).toNatClampNeg) rfl ?_
  refine mx_callF (k := 0) (wa := wx') (rest := []) (As := [.int (xs (i + 1).toNatClampNeg), .int (xs (i + 2).toNatClampNeg)]) (μ := (fun k => ((Value.ref y :: [.int (xs (i + 1).toNatClampNeg), .int (xs (i + 2).toNatClampNeg)])[k]?).getD .null)) X k_L_107 (ac_X11_judge_0 l G) (by decide) (by decide) hy (fun ad w0 he => pre_mu (C := C_X11_judge_0) (ts := [tI0, tI0]) (As := [.int (xs (i + 1).toNatClampNeg), .int (xs (i + 2).toNatClampNeg)]) rfl rfl rfl rfl ⟨fun _ => vty_i0 _, fun _ => vty_i0 _, trivial⟩ ad w0 he) rfl d_lw_923 ⟨by decide, by decide⟩ ⟨hc, hs⟩ rfl rfl (Nat.le_of_ble_eq_true rfl) rfl (fun r wm' hr hy' hfm => ?_)
  rcases hr with ⟨h, -⟩ | ⟨-, v, rfl⟩ | ⟨h, -⟩
  all_goals first | (exact absurd h (by decide)) | skip
  refine z_pop X d_lw_926 rfl ?_
  refine z_goto X d_lw_927 (tgt := 2192) (by decide) ?_
  exact hK wx' wm' hx' hl' hy' (RelQ.of (hR.m.keep hfx hfm (by decide)) (hR.a.keep hfx hfm (by decide)) (hR.d.keep hfx hfm (by decide)) (hR.c.keep hfx hfm (by decide)) (hR.x.keep hfx hfm (by decide)) (hR.b.keep hfx hfm (by decide)) (hR.h.keep hfx hfm (by decide)) (hR.t.keep hfx hfm (by decide)) (hR.k.keep hfx hfm (by decide)))
theorem lc_19 (X : ZC p s m #[Value.ref b] meth c code 8 RL G (fun q : Nat => s.heap.size ≤ q) ret nm) (hX : va_X b L xs s s.heap) (hbl : b < s.heap.size) (hbA : ¬ s.heap.size ≤ b) (hi0 : 0 ≤ i.toInt) (hi1 : i.toInt + 10 ≤ (L : Int) ∧ L ≤ 5120) (hx : CWx G x wx) (hy : MWx G y wm) (hR : RelQ G wx wm) (hc : kc ≤ room_1.cells) (hs : ks ≤ room_1.slots) (hK : ∀ wx' wm', CWx G x wx' → wx'.length = wx.length → MWx G y wm' → RelQ G wx' wm' → Z p l e room_1 s m #[Value.ref b] below meth c 8 G (fun q : Nat => s.heap.size ≤ q) (lw_Z below #[Value.ref b] s) 2192 (lv5 b x y o i) [] (wx' ++ wm' ++ [(o, aJ G 1 f)]) kc ks) : Z p l e room_1 s m #[Value.ref b] below meth c 8 G (fun q : Nat => s.heap.size ≤ q) (lw_Z below #[Value.ref b] s) 930 (lv5 b x y o i) [] (wx ++ wm ++ [(o, aJ G 1 f)]) kc ks := by
  refine z_aload_n X d_lw_930 rfl 1 rfl ?_
  rw [List.append_assoc]
  refine cx_callF (k := 0) (rest := []) (As := []) (μ := (fun k => ((Value.ref x :: [])[k]?).getD .null)) X k_L_108 (ac_X10_bars_0 l G) (by decide) (by decide) (by decide) hx (fun ad w0 he => pre_mu (C := C_X10_bars_0) (ts := []) (As := []) rfl rfl rfl rfl trivial ad w0 he) rfl d_lw_931 ⟨by decide, by decide⟩ ⟨hc, hs⟩ rfl rfl (by decide) rfl (fun r wx' hr hx' hl' hfx => ?_)
  rw [← List.append_assoc]
  rcases hr with ⟨h, -⟩ | ⟨-, v, rfl⟩ | ⟨h, -⟩
  all_goals first | (exact absurd h (by decide)) | skip
  refine z_pop X d_lw_934 rfl ?_
  refine z_aload_n X d_lw_935 rfl 2 rfl ?_
  refine mx_callF (k := 0) (wa := wx') (rest := []) (As := []) (μ := (fun k => ((Value.ref y :: [])[k]?).getD .null)) X k_L_111 (ac_X11_bars_0 l G) (by decide) (by decide) hy (fun ad w0 he => pre_mu (C := C_X11_bars_0) (ts := []) (As := []) rfl rfl rfl rfl trivial ad w0 he) rfl d_lw_936 ⟨by decide, by decide⟩ ⟨hc, hs⟩ rfl rfl (Nat.le_of_ble_eq_true rfl) rfl (fun r wm' hr hy' hfm => ?_)
  rcases hr with ⟨h, -⟩ | ⟨-, v, rfl⟩ | ⟨h, -⟩
  all_goals first | (exact absurd h (by decide)) | skip
  refine z_pop X d_lw_939 rfl ?_
  refine z_goto X d_lw_940 (tgt := 2192) (by decide) ?_
  exact hK wx' wm' hx' hl' hy' (RelQ.of (hR.m.keep hfx hfm (by decide)) (hR.a.keep hfx hfm (by decide)) (hR.d.keep hfx hfm (by decide)) (hR.c.keep hfx hfm (by decide)) (hR.x.keep hfx hfm (by decide)) (hR.b.keep hfx hfm (by decide)) (hR.h.keep hfx hfm (by decide)) (hR.t.keep hfx hfm (by decide)) (hR.k.keep hfx hfm (by decide)))
theorem lc_20 (X : ZC p s m #[Value.ref b] meth c code 8 RL G (fun q : Nat => s.heap.size ≤ q) ret nm) (hX : va_X b L xs s s.heap) (hbl : b < s.heap.size) (hbA : ¬ s.heap.size ≤ b) (hi0 : 0 ≤ i.toInt) (hi1 : i.toInt + 10 ≤ (L : Int) ∧ L ≤ 5120) (hx : CWx G x wx) (hy : MWx G y wm) (hR : RelQ G wx wm) (hbud : wx.length = 109 → kc + 7 ≤ room_1.cells ∧ ks + 80434 ≤ room_1.slots) (hc : kc ≤ room_1.cells) (hs : ks ≤ room_1.slots) (hK : ∀ (k n : Nat) (wx' wm' : va_W), CWx G x wx' → ((k = 0 ∧ n = 0 ∧ wx'.length = wx.length) ∨ (k = 7 ∧ n = 80434 ∧ wx.length = 109 ∧ wx'.length = 116)) → MWx G y wm' → RelQ G wx' wm' → Z p l e room_1 s m #[Value.ref b] below meth c 8 G (fun q : Nat => s.heap.size ≤ q) (lw_Z below #[Value.ref b] s) 2192 (lv5 b x y o i) [] (wx' ++ wm' ++ [(o, aJ G 1 f)]) (kc + k) (ks + n)) : Z p l e room_1 s m #[Value.ref b] below meth c 8 G (fun q : Nat => s.heap.size ≤ q) (lw_Z below #[Value.ref b] s) 943 (lv5 b x y o i) [] (wx ++ wm ++ [(o, aJ G 1 f)]) kc ks := by
  refine z_aload_n X d_lw_943 rfl 1 rfl ?_
  refine z_aload_n X d_lw_944 rfl 0 rfl ?_
  refine z_iload X d_lw_945 4 rfl ?_
  refine z_iconst X d_lw_947 (v := 1) (by decide) ?_
  refine z_iadd X d_lw_948 ?_
  refine z_sld X hX hbl hbA (lw_in hi0 hi1 (k := 1) (by decide) (by decide)) d_lw_949 (v := xs (i + 1).toNatClampNeg) rfl ?_
  refine z_aload_n X d_lw_950 rfl 0 rfl ?_
  refine z_iload X d_lw_951 4 rfl ?_
  refine z_iconst X d_lw_953 (v := 2) (by decide) ?_
  refine z_iadd X d_lw_954 ?_
  refine z_sld X hX hbl hbA (lw_in hi0 hi1 (k := 2) (by decide) (by decide)) d_lw_955 (v := xs (i + 2).toNatClampNeg) rfl ?_
  rw [List.append_assoc]
  refine cx_growV (rN := rm_nx 7 80434) (rR := rm_nx 0 0) (rest := []) (As := [.int (xs (i + 1).toNatClampNeg), .int (xs (i + 2).toNatClampNeg)]) X k_L_112 (fun ad w0 h1 h2 h3 => ac_nxV l G (xs (i + 1).toNatClampNeg) (xs (i + 2).toNatClampNeg) h1 h2 h3) (fun ad w0 h1 h2 h3 => ac_nxR l G (xs (i + 1).toNatClampNeg) (xs (i + 2).toNatClampNeg) h1 h2 h3) hx d_lw_956 ⟨by decide, by decide⟩ ⟨by decide, by decide⟩ hbud ⟨hc, hs⟩ ⟨rfl, rfl⟩ rfl rfl (by decide) rfl (fun k n v wx' hx' hfx hcost => ?_)
  rw [← List.append_assoc]
  have hcs : kc + k ≤ room_1.cells ∧ ks + n ≤ room_1.slots := by
    rcases hcost with ⟨rfl, rfl, -⟩ | ⟨rfl, rfl, h, -⟩
    · exact ⟨hc, hs⟩
    · exact hbud h
  refine z_pop X d_lw_959 rfl ?_
  refine z_aload_n X d_lw_960 rfl 2 rfl ?_
  refine z_aload_n X d_lw_961 rfl 0 rfl ?_
  refine z_iload X d_lw_962 4 rfl ?_
  refine z_iconst X d_lw_964 (v := 1) (by decide) ?_
  refine z_iadd X d_lw_965 ?_
  refine z_sld X hX hbl hbA (lw_in hi0 hi1 (k := 1) (by decide) (by decide)) d_lw_966 (v := xs (i + 1).toNatClampNeg) rfl ?_
  refine z_aload_n X d_lw_967 rfl 0 rfl ?_
  refine z_iload X d_lw_968 4 rfl ?_
  refine z_iconst X d_lw_970 (v := 2) (by decide) ?_
  refine z_iadd X d_lw_971 ?_
  refine z_sld X hX hbl hbA (lw_in hi0 hi1 (k := 2) (by decide) (by decide)) d_lw_972 (v := xs (i + 2).toNatClampNeg) rfl ?_
  refine mx_callF (k := 0) (wa := wx') (rest := []) (As := [.int (xs (i + 1).toNatClampNeg), .int (xs (i + 2).toNatClampNeg)]) (μ := (fun k => ((Value.ref y :: [.int (xs (i + 1).toNatClampNeg), .int (xs (i + 2).toNatClampNeg)])[k]?).getD .null)) X k_L_115 (ac_X11_next_0 l G) (by decide) (by decide) hy (fun ad w0 he => pre_mu (C := C_X11_next_0) (ts := [tI0, tI0]) (As := [.int (xs (i + 1).toNatClampNeg), .int (xs (i + 2).toNatClampNeg)]) rfl rfl rfl rfl ⟨fun _ => vty_i0 _, fun _ => vty_i0 _, trivial⟩ ad w0 he) rfl d_lw_973 ⟨by decide, by decide⟩ hcs rfl rfl (Nat.le_of_ble_eq_true rfl) rfl (fun r wm' hr hy' hfm => ?_)
  rcases hr with ⟨h, -⟩ | ⟨-, v2, rfl⟩ | ⟨h, -⟩
  all_goals first | (exact absurd h (by decide)) | skip
  refine z_pop X d_lw_976 rfl ?_
  refine z_goto X d_lw_977 (tgt := 2192) (by decide) ?_
  exact hK k n wx' wm' hx' hcost hy' (RelQ.of (hR.m.keep hfx hfm (by decide)) (hR.a.keep hfx hfm (by decide)) (hR.d.keep hfx hfm (by decide)) (hR.c.keep hfx hfm (by decide)) (hR.x.keep hfx hfm (by decide)) (hR.b.keep hfx hfm (by decide)) (hR.h.keep hfx hfm (by decide)) (hR.t.keep hfx hfm (by decide)) (hR.k.keep hfx hfm (by decide)))
theorem lc_21 (X : ZC p s m #[Value.ref b] meth c code 8 RL G (fun q : Nat => s.heap.size ≤ q) ret nm) (hX : va_X b L xs s s.heap) (hbl : b < s.heap.size) (hbA : ¬ s.heap.size ≤ b) (hi0 : 0 ≤ i.toInt) (hi1 : i.toInt + 10 ≤ (L : Int) ∧ L ≤ 5120) (hx : CWx G x wx) (hy : MWx G y wm) (hR : RelQ G wx wm) (hbud : wx.length = 109 → kc + 7 ≤ room_1.cells ∧ ks + 80434 ≤ room_1.slots) (hc : kc ≤ room_1.cells) (hs : ks ≤ room_1.slots) (hK : ∀ (k n : Nat) (wx' wm' : va_W), CWx G x wx' → ((k = 0 ∧ n = 0 ∧ wx'.length = wx.length) ∨ (k = 7 ∧ n = 80434 ∧ wx.length = 109 ∧ wx'.length = 116)) → MWx G y wm' → RelQ G wx' wm' → Z p l e room_1 s m #[Value.ref b] below meth c 8 G (fun q : Nat => s.heap.size ≤ q) (lw_Z below #[Value.ref b] s) 2192 (lv5 b x y o i) [] (wx' ++ wm' ++ [(o, aJ G 1 f)]) (kc + k) (ks + n)) : Z p l e room_1 s m #[Value.ref b] below meth c 8 G (fun q : Nat => s.heap.size ≤ q) (lw_Z below #[Value.ref b] s) 980 (lv5 b x y o i) [] (wx ++ wm ++ [(o, aJ G 1 f)]) kc ks := by
  refine z_aload_n X d_lw_980 rfl 1 rfl ?_
  refine z_aload_n X d_lw_981 rfl 0 rfl ?_
  refine z_iload X d_lw_982 4 rfl ?_
  refine z_iconst X d_lw_984 (v := 1) (by decide) ?_
  refine z_iadd X d_lw_985 ?_
  refine z_sld X hX hbl hbA (lw_in hi0 hi1 (k := 1) (by decide) (by decide)) d_lw_986 (v := xs (i + 1).toNatClampNeg) rfl ?_
  refine z_aload_n X d_lw_987 rfl 0 rfl ?_
  refine z_iload X d_lw_988 4 rfl ?_
  refine z_iconst X d_lw_990 (v := 2) (by decide) ?_
  refine z_iadd X d_lw_991 ?_
  refine z_sld X hX hbl hbA (lw_in hi0 hi1 (k := 2) (by decide) (by decide)) d_lw_992 (v := xs (i + 2).toNatClampNeg) rfl ?_
  refine z_aload_n X d_lw_993 rfl 0 rfl ?_
  refine z_iload X d_lw_994 4 rfl ?_
  refine z_iconst X d_lw_996 (v := 3) (by decide) ?_
  refine z_iadd X d_lw_997 ?_
  refine z_sld X hX hbl hbA (lw_in hi0 hi1 (k := 3) (by decide) (by decide)) d_lw_998 (v := xs (i + 3).toNatClampNeg) rfl ?_
  rw [List.append_assoc]
  refine cx_growV (rN := rm_en 7 80434) (rR := rm_en 0 0) (rest := []) (As := [.int (xs (i + 1).toNatClampNeg), .int (xs (i + 2).toNatClampNeg), .int (xs (i + 3).toNatClampNeg)]) X k_L_116 (fun ad w0 h1 h2 h3 => ac_enV l G (xs (i + 1).toNatClampNeg) (xs (i + 2).toNatClampNeg) (xs (i + 3).toNatClampNeg) h1 h2 h3) (fun ad w0 h1 h2 h3 => ac_enR l G (xs (i + 1).toNatClampNeg) (xs (i + 2).toNatClampNeg) (xs (i + 3).toNatClampNeg) h1 h2 h3) hx d_lw_999 ⟨by decide, by decide⟩ ⟨by decide, by decide⟩ hbud ⟨hc, hs⟩ ⟨rfl, rfl⟩ rfl rfl (by decide) rfl (fun k n v wx' hx' hfx hcost => ?_)
  rw [← List.append_assoc]
  have hcs : kc + k ≤ room_1.cells ∧ ks + n ≤ room_1.slots := by
    rcases hcost with ⟨rfl, rfl, -⟩ | ⟨rfl, rfl, h, -⟩
    · exact ⟨hc, hs⟩
    · exact hbud h
  refine z_pop X d_lw_1002 rfl ?_
  refine z_aload_n X d_lw_1003 rfl 2 rfl ?_
  refine z_aload_n X d_lw_1004 rfl 0 rfl ?_
  refine z_iload X d_lw_1005 4 rfl ?_
  refine z_iconst X d_lw_1007 (v := 1) (by decide) ?_
  refine z_iadd X d_lw_1008 ?_
  refine z_sld X hX hbl hbA (lw_in hi0 hi1 (k := 1) (by decide) (by decide)) d_lw_1009 (v := xs (i + 1).toNatClampNeg) rfl ?_
  refine z_aload_n X d_lw_1010 rfl 0 rfl ?_
  refine z_iload X d_lw_1011 4 rfl ?_
  refine z_iconst X d_lw_1013 (v := 2) (by decide) ?_
  refine z_iadd X d_lw_1014 ?_
  refine z_sld X hX hbl hbA (lw_in hi0 hi1 (k := 2) (by decide) (by decide)) d_lw_1015 (v := xs (i + 2).toNatClampNeg) rfl ?_
  refine z_aload_n X d_lw_1016 rfl 0 rfl ?_
  refine z_iload X d_lw_1017 4 rfl ?_
  refine z_iconst X d_lw_1019 (v := 3) (by decide) ?_
  refine z_iadd X d_lw_1020 ?_
  refine z_sld X hX hbl hbA (lw_in hi0 hi1 (k := 3) (by decide) (by decide)) d_lw_1021 (v := xs (i + 3).toNatClampNeg) rfl ?_
  refine mx_callF (k := 0) (wa := wx') (rest := []) (As := [.int (xs (i + 1).toNatClampNeg), .int (xs (i + 2).toNatClampNeg), .int (xs (i + 3).toNatClampNeg)]) (μ := (fun k => ((Value.ref y :: [.int (xs (i + 1).toNatClampNeg), .int (xs (i + 2).toNatClampNeg), .int (xs (i + 3).toNatClampNeg)])[k]?).getD .null)) X k_L_119 (ac_X11_enough_0 l G) (by decide) (by decide) hy (fun ad w0 he => pre_mu (C := C_X11_enough_0) (ts := [tI0, tI0, tI0]) (As := [.int (xs (i + 1).toNatClampNeg), .int (xs (i + 2).toNatClampNeg), .int (xs (i + 3).toNatClampNeg)]) rfl rfl rfl rfl ⟨fun _ => vty_i0 _, fun _ => vty_i0 _, fun _ => vty_i0 _, trivial⟩ ad w0 he) rfl d_lw_1022 ⟨by decide, by decide⟩ hcs rfl rfl (Nat.le_of_ble_eq_true rfl) rfl (fun r wm' hr hy' hfm => ?_)
  rcases hr with ⟨h, -⟩ | ⟨-, v2, rfl⟩ | ⟨h, -⟩
  all_goals first | (exact absurd h (by decide)) | skip
  refine z_pop X d_lw_1025 rfl ?_
  refine z_goto X d_lw_1026 (tgt := 2192) (by decide) ?_
  exact hK k n wx' wm' hx' hcost hy' (RelQ.of (hR.m.keep hfx hfm (by decide)) (hR.a.keep hfx hfm (by decide)) (hR.d.keep hfx hfm (by decide)) (hR.c.keep hfx hfm (by decide)) (hR.x.keep hfx hfm (by decide)) (hR.b.keep hfx hfm (by decide)) (hR.h.keep hfx hfm (by decide)) (hR.t.keep hfx hfm (by decide)) (hR.k.keep hfx hfm (by decide)))
theorem lc_22 (X : ZC p s m #[Value.ref b] meth c code 8 RL G (fun q : Nat => s.heap.size ≤ q) ret nm) (hX : va_X b L xs s s.heap) (hbl : b < s.heap.size) (hbA : ¬ s.heap.size ≤ b) (hi0 : 0 ≤ i.toInt) (hi1 : i.toInt + 10 ≤ (L : Int) ∧ L ≤ 5120) (hx : CWx G x wx) (hy : MWx G y wm) (hR : RelQ G wx wm) (hc : kc ≤ room_1.cells) (hs : ks ≤ room_1.slots) (hK : ∀ wx' wm', CWx G x wx' → wx'.length = wx.length → MWx G y wm' → RelQ G wx' wm' → Z p l e room_1 s m #[Value.ref b] below meth c 8 G (fun q : Nat => s.heap.size ≤ q) (lw_Z below #[Value.ref b] s) 2192 (lv5 b x y o i) [] (wx' ++ wm' ++ [(o, aJ G 1 f)]) kc ks) : Z p l e room_1 s m #[Value.ref b] below meth c 8 G (fun q : Nat => s.heap.size ≤ q) (lw_Z below #[Value.ref b] s) 1029 (lv5 b x y o i) [] (wx ++ wm ++ [(o, aJ G 1 f)]) kc ks := by
  refine z_aload_n X d_lw_1029 rfl 1 rfl ?_
  refine z_aload_n X d_lw_1030 rfl 0 rfl ?_
  refine z_iload X d_lw_1031 4 rfl ?_
  refine z_iconst X d_lw_1033 (v := 1) (by decide) ?_
  refine z_iadd X d_lw_1034 ?_
  refine z_sld X hX hbl hbA (lw_in hi0 hi1 (k := 1) (by decide) (by decide)) d_lw_1035 (v := xs (i + 1).toNatClampNeg) rfl ?_
  refine z_aload_n X d_lw_1036 rfl 0 rfl ?_
  refine z_iload X d_lw_1037 4 rfl ?_
  refine z_iconst X d_lw_1039 (v := 2) (by decide) ?_
  refine z_iadd X d_lw_1040 ?_
  refine z_sld X hX hbl hbA (lw_in hi0 hi1 (k := 2) (by decide) (by decide)) d_lw_1041 (v := xs (i + 2).toNatClampNeg) rfl ?_
  refine z_aload_n X d_lw_1042 rfl 0 rfl ?_
  refine z_iload X d_lw_1043 4 rfl ?_
  refine z_iconst X d_lw_1045 (v := 3) (by decide) ?_
  refine z_iadd X d_lw_1046 ?_
  refine z_sld X hX hbl hbA (lw_in hi0 hi1 (k := 3) (by decide) (by decide)) d_lw_1047 (v := xs (i + 3).toNatClampNeg) rfl ?_
  rw [List.append_assoc]
  refine cx_callF (k := 0) (rest := []) (As := [.int (xs (i + 1).toNatClampNeg), .int (xs (i + 2).toNatClampNeg), .int (xs (i + 3).toNatClampNeg)]) (μ := (fun k => ((Value.ref x :: [.int (xs (i + 1).toNatClampNeg), .int (xs (i + 2).toNatClampNeg), .int (xs (i + 3).toNatClampNeg)])[k]?).getD .null)) X k_L_120 (ac_X10_man_0 l G) (by decide) (by decide) (by decide) hx (fun ad w0 he => pre_mu (C := C_X10_man_0) (ts := [tI0, tI0, tI0]) (As := [.int (xs (i + 1).toNatClampNeg), .int (xs (i + 2).toNatClampNeg), .int (xs (i + 3).toNatClampNeg)]) rfl rfl rfl rfl ⟨fun _ => vty_i0 _, fun _ => vty_i0 _, fun _ => vty_i0 _, trivial⟩ ad w0 he) rfl d_lw_1048 ⟨by decide, by decide⟩ ⟨hc, hs⟩ rfl rfl (by decide) rfl (fun r wx' hr hx' hl' hfx => ?_)
  rw [← List.append_assoc]
  rcases hr with ⟨h, -⟩ | ⟨-, v, rfl⟩ | ⟨h, -⟩
  all_goals first | (exact absurd h (by decide)) | skip
  refine z_pop X d_lw_1051 rfl ?_
  refine z_aload_n X d_lw_1052 rfl 2 rfl ?_
  refine z_aload_n X d_lw_1053 rfl 0 rfl ?_
  refine z_iload X d_lw_1054 4 rfl ?_
  refine z_iconst X d_lw_1056 (v := 1) (by decide) ?_
  refine z_iadd X d_lw_1057 ?_
  refine z_sld X hX hbl hbA (lw_in hi0 hi1 (k := 1) (by decide) (by decide)) d_lw_1058 (v := xs (i + 1).toNatClampNeg) rfl ?_
  refine z_aload_n X d_lw_1059 rfl 0 rfl ?_
  refine z_iload X d_lw_1060 4 rfl ?_
  refine z_iconst X d_lw_1062 (v := 2) (by decide) ?_
  refine z_iadd X d_lw_1063 ?_
  refine z_sld X hX hbl hbA (lw_in hi0 hi1 (k := 2) (by decide) (by decide)) d_lw_1064 (v := xs (i + 2).toNatClampNeg) rfl ?_
  refine z_aload_n X d_lw_1065 rfl 0 rfl ?_
  refine z_iload X d_lw_1066 4 rfl ?_
  refine z_iconst X d_lw_1068 (v := 3) (by decide) ?_
  refine z_iadd X d_lw_1069 ?_
  refine z_sld X hX hbl hbA (lw_in hi0 hi1 (k := 3) (by decide) (by decide)) d_lw_1070 (v := xs (i + 3).toNatClampNeg) rfl ?_
  refine mx_callF (k := 0) (wa := wx') (rest := []) (As := [.int (xs (i + 1).toNatClampNeg), .int (xs (i + 2).toNatClampNeg), .int (xs (i + 3).toNatClampNeg)]) (μ := (fun k => ((Value.ref y :: [.int (xs (i + 1).toNatClampNeg), .int (xs (i + 2).toNatClampNeg), .int (xs (i + 3).toNatClampNeg)])[k]?).getD .null)) X k_L_123 (ac_X11_man_0 l G) (by decide) (by decide) hy (fun ad w0 he => pre_mu (C := C_X11_man_0) (ts := [tI0, tI0, tI0]) (As := [.int (xs (i + 1).toNatClampNeg), .int (xs (i + 2).toNatClampNeg), .int (xs (i + 3).toNatClampNeg)]) rfl rfl rfl rfl ⟨fun _ => vty_i0 _, fun _ => vty_i0 _, fun _ => vty_i0 _, trivial⟩ ad w0 he) rfl d_lw_1071 ⟨by decide, by decide⟩ ⟨hc, hs⟩ rfl rfl (Nat.le_of_ble_eq_true rfl) rfl (fun r wm' hr hy' hfm => ?_)
  rcases hr with ⟨h, -⟩ | ⟨-, v, rfl⟩ | ⟨h, -⟩
  all_goals first | (exact absurd h (by decide)) | skip
  refine z_pop X d_lw_1074 rfl ?_
  refine z_goto X d_lw_1075 (tgt := 2192) (by decide) ?_
  exact hK wx' wm' hx' hl' hy' (RelQ.of (hR.m.keep hfx hfm (by decide)) (hR.a.keep hfx hfm (by decide)) (hR.d.keep hfx hfm (by decide)) (hR.c.keep hfx hfm (by decide)) (hR.x.keep hfx hfm (by decide)) (hR.b.keep hfx hfm (by decide)) (hR.h.keep hfx hfm (by decide)) (hR.t.keep hfx hfm (by decide)) (hR.k.keep hfx hfm (by decide)))
theorem lc_23 (X : ZC p s m #[Value.ref b] meth c code 8 RL G (fun q : Nat => s.heap.size ≤ q) ret nm) (hX : va_X b L xs s s.heap) (hbl : b < s.heap.size) (hbA : ¬ s.heap.size ≤ b) (hi0 : 0 ≤ i.toInt) (hi1 : i.toInt + 10 ≤ (L : Int) ∧ L ≤ 5120) (hx : CWx G x wx) (hy : MWx G y wm) (hR : RelQ G wx wm) (hc : kc ≤ room_1.cells) (hs : ks ≤ room_1.slots) (hK : ∀ wx' wm', CWx G x wx' → wx'.length = wx.length → MWx G y wm' → RelQ G wx' wm' → Z p l e room_1 s m #[Value.ref b] below meth c 8 G (fun q : Nat => s.heap.size ≤ q) (lw_Z below #[Value.ref b] s) 2192 (lv5 b x y o i) [] (wx' ++ wm' ++ [(o, aJ G 1 f)]) kc ks) : Z p l e room_1 s m #[Value.ref b] below meth c 8 G (fun q : Nat => s.heap.size ≤ q) (lw_Z below #[Value.ref b] s) 1078 (lv5 b x y o i) [] (wx ++ wm ++ [(o, aJ G 1 f)]) kc ks := by
  refine z_aload_n X d_lw_1078 rfl 1 rfl ?_
  refine z_aload_n X d_lw_1079 rfl 0 rfl ?_
  refine z_iload X d_lw_1080 4 rfl ?_
  refine z_iconst X d_lw_1082 (v := 1) (by decide) ?_
  refine z_iadd X d_lw_1083 ?_
  refine z_sld X hX hbl hbA (lw_in hi0 hi1 (k := 1) (by decide) (by decide)) d_lw_1084 (v := xs (i + 1).toNatClampNeg) rfl ?_
  refine z_aload_n X d_lw_1085 rfl 0 rfl ?_
  refine z_iload X d_lw_1086 4 rfl ?_
  refine z_iconst X d_lw_1088 (v := 2) (by decide) ?_
  refine z_iadd X d_lw_1089 ?_
  refine z_sld X hX hbl hbA (lw_in hi0 hi1 (k := 2) (by decide) (by decide)) d_lw_1090 (v := xs (i + 2).toNatClampNeg) rfl ?_
  rw [List.append_assoc]
  refine cx_callF (k := 0) (rest := []) (As := [.int (xs (i + 1).toNatClampNeg), .int (xs (i + 2).toNatClampNeg)]) (μ := (fun k => ((Value.ref x :: [.int (xs (i + 1).toNatClampNeg), .int (xs (i + 2).toNatClampNeg)])[k]?).getD .null)) X k_L_124 (ac_X10_tells_0 l G) (by decide) (by decide) (by decide) hx (fun ad w0 he => pre_mu (C := C_X10_tells_0) (ts := [tI0, tI0]) (As := [.int (xs (i + 1).toNatClampNeg), .int (xs (i + 2).toNatClampNeg)]) rfl rfl rfl rfl ⟨fun _ => vty_i0 _, fun _ => vty_i0 _, trivial⟩ ad w0 he) rfl d_lw_1091 ⟨by decide, by decide⟩ ⟨hc, hs⟩ rfl rfl (by decide) rfl (fun r wx' hr hx' hl' hfx => ?_)
  rw [← List.append_assoc]
  rcases hr with ⟨h, -⟩ | ⟨-, v, rfl⟩ | ⟨h, -⟩
  all_goals first | (exact absurd h (by decide)) | skip
  refine z_pop X d_lw_1094 rfl ?_
  refine z_aload_n X d_lw_1095 rfl 2 rfl ?_
  refine z_aload_n X d_lw_1096 rfl 0 rfl ?_
  refine z_iload X d_lw_1097 4 rfl ?_
  refine z_iconst X d_lw_1099 (v := 1) (by decide) ?_
  refine z_iadd X d_lw_1100 ?_
  refine z_sld X hX hbl hbA (lw_in hi0 hi1 (k := 1) (by decide) (by decide)) d_lw_1101 (v := xs (i + 1).toNatClampNeg) rfl ?_
  refine z_aload_n X d_lw_1102 rfl 0 rfl ?_
  refine z_iload X d_lw_1103 4 rfl ?_
  refine z_iconst X d_lw_1105 (v := 2) (by decide) ?_
  refine z_iadd X d_lw_1106 ?_
  refine z_sld X hX hbl hbA (lw_in hi0 hi1 (k := 2) (by decide) (by decide)) d_lw_1107 (v := xs (i + 2).toNatClampNeg) rfl ?_
  refine mx_callF (k := 0) (wa := wx') (rest := []) (As := [.int (xs (i + 1).toNatClampNeg), .int (xs (i + 2).toNatClampNeg)]) (μ := (fun k => ((Value.ref y :: [.int (xs (i + 1).toNatClampNeg), .int (xs (i + 2).toNatClampNeg)])[k]?).getD .null)) X k_L_127 (ac_X11_tells_0 l G) (by decide) (by decide) hy (fun ad w0 he => pre_mu (C := C_X11_tells_0) (ts := [tI0, tI0]) (As := [.int (xs (i + 1).toNatClampNeg), .int (xs (i + 2).toNatClampNeg)]) rfl rfl rfl rfl ⟨fun _ => vty_i0 _, fun _ => vty_i0 _, trivial⟩ ad w0 he) rfl d_lw_1108 ⟨by decide, by decide⟩ ⟨hc, hs⟩ rfl rfl (Nat.le_of_ble_eq_true rfl) rfl (fun r wm' hr hy' hfm => ?_)
  rcases hr with ⟨h, -⟩ | ⟨-, v, rfl⟩ | ⟨h, -⟩
  all_goals first | (exact absurd h (by decide)) | skip
  refine z_pop X d_lw_1111 rfl ?_
  refine z_goto X d_lw_1112 (tgt := 2192) (by decide) ?_
  exact hK wx' wm' hx' hl' hy' (RelQ.of (hR.m.keep hfx hfm (by decide)) (hR.a.keep hfx hfm (by decide)) (hR.d.keep hfx hfm (by decide)) (hR.c.keep hfx hfm (by decide)) (hR.x.keep hfx hfm (by decide)) (hR.b.keep hfx hfm (by decide)) (hR.h.keep hfx hfm (by decide)) (hR.t.keep hfx hfm (by decide)) (hR.k.keep hfx hfm (by decide)))
theorem lc_24 (X : ZC p s m #[Value.ref b] meth c code 8 RL G (fun q : Nat => s.heap.size ≤ q) ret nm) (hX : va_X b L xs s s.heap) (hbl : b < s.heap.size) (hbA : ¬ s.heap.size ≤ b) (hi0 : 0 ≤ i.toInt) (hi1 : i.toInt + 10 ≤ (L : Int) ∧ L ≤ 5120) (hx : CWx G x wx) (hy : MWx G y wm) (hR : RelQ G wx wm) (hc : kc ≤ room_1.cells) (hs : ks ≤ room_1.slots) (hK : ∀ wx' wm', CWx G x wx' → wx'.length = wx.length → MWx G y wm' → RelQ G wx' wm' → Z p l e room_1 s m #[Value.ref b] below meth c 8 G (fun q : Nat => s.heap.size ≤ q) (lw_Z below #[Value.ref b] s) 2192 (lv5 b x y o i) [] (wx' ++ wm' ++ [(o, aJ G 1 f)]) kc ks) : Z p l e room_1 s m #[Value.ref b] below meth c 8 G (fun q : Nat => s.heap.size ≤ q) (lw_Z below #[Value.ref b] s) 1115 (lv5 b x y o i) [] (wx ++ wm ++ [(o, aJ G 1 f)]) kc ks := by
  refine z_aload_n X d_lw_1115 rfl 1 rfl ?_
  refine z_aload_n X d_lw_1116 rfl 0 rfl ?_
  refine z_iload X d_lw_1117 4 rfl ?_
  refine z_iconst X d_lw_1119 (v := 1) (by decide) ?_
  refine z_iadd X d_lw_1120 ?_
  refine z_sld X hX hbl hbA (lw_in hi0 hi1 (k := 1) (by decide) (by decide)) d_lw_1121 (v := xs (i + 1).toNatClampNeg) rfl ?_
  refine z_aload_n X d_lw_1122 rfl 0 rfl ?_
  refine z_iload X d_lw_1123 4 rfl ?_
  refine z_iconst X d_lw_1125 (v := 2) (by decide) ?_
  refine z_iadd X d_lw_1126 ?_
  refine z_sld X hX hbl hbA (lw_in hi0 hi1 (k := 2) (by decide) (by decide)) d_lw_1127 (v := xs (i + 2).toNatClampNeg) rfl ?_
  refine z_aload_n X d_lw_1128 rfl 0 rfl ?_
  refine z_iload X d_lw_1129 4 rfl ?_
  refine z_iconst X d_lw_1131 (v := 3) (by decide) ?_
  refine z_iadd X d_lw_1132 ?_
  refine z_sld X hX hbl hbA (lw_in hi0 hi1 (k := 3) (by decide) (by decide)) d_lw_1133 (v := xs (i + 3).toNatClampNeg) rfl ?_
  refine z_aload_n X d_lw_1134 rfl 0 rfl ?_
  refine z_iload X d_lw_1135 4 rfl ?_
  refine z_iconst X d_lw_1137 (v := 4) (by decide) ?_
  refine z_iadd X d_lw_1138 ?_
  refine z_sld X hX hbl hbA (lw_in hi0 hi1 (k := 4) (by decide) (by decide)) d_lw_1139 (v := xs (i + 4).toNatClampNeg) rfl ?_
  rw [List.append_assoc]
  refine cx_callF (k := 0) (rest := []) (As := [.int (xs (i + 1).toNatClampNeg), .int (xs (i + 2).toNatClampNeg), .int (xs (i + 3).toNatClampNeg), .int (xs (i + 4).toNatClampNeg)]) (μ := (fun k => ((Value.ref x :: [.int (xs (i + 1).toNatClampNeg), .int (xs (i + 2).toNatClampNeg), .int (xs (i + 3).toNatClampNeg), .int (xs (i + 4).toNatClampNeg)])[k]?).getD .null)) X k_L_128 (ac_X10_men_0 l G) (by decide) (by decide) (by decide) hx (fun ad w0 he => pre_mu (C := C_X10_men_0) (ts := [tI0, tI0, tI0, tI0]) (As := [.int (xs (i + 1).toNatClampNeg), .int (xs (i + 2).toNatClampNeg), .int (xs (i + 3).toNatClampNeg), .int (xs (i + 4).toNatClampNeg)]) rfl rfl rfl rfl ⟨fun _ => vty_i0 _, fun _ => vty_i0 _, fun _ => vty_i0 _, fun _ => vty_i0 _, trivial⟩ ad w0 he) rfl d_lw_1140 ⟨by decide, by decide⟩ ⟨hc, hs⟩ rfl rfl (by decide) rfl (fun r wx' hr hx' hl' hfx => ?_)
  rw [← List.append_assoc]
  rcases hr with ⟨h, -⟩ | ⟨-, v, rfl⟩ | ⟨h, -⟩
  all_goals first | (exact absurd h (by decide)) | skip
  refine z_pop X d_lw_1143 rfl ?_
  refine z_aload_n X d_lw_1144 rfl 2 rfl ?_
  refine z_aload_n X d_lw_1145 rfl 0 rfl ?_
  refine z_iload X d_lw_1146 4 rfl ?_
  refine z_iconst X d_lw_1148 (v := 1) (by decide) ?_
  refine z_iadd X d_lw_1149 ?_
  refine z_sld X hX hbl hbA (lw_in hi0 hi1 (k := 1) (by decide) (by decide)) d_lw_1150 (v := xs (i + 1).toNatClampNeg) rfl ?_
  refine z_aload_n X d_lw_1151 rfl 0 rfl ?_
  refine z_iload X d_lw_1152 4 rfl ?_
  refine z_iconst X d_lw_1154 (v := 2) (by decide) ?_
  refine z_iadd X d_lw_1155 ?_
  refine z_sld X hX hbl hbA (lw_in hi0 hi1 (k := 2) (by decide) (by decide)) d_lw_1156 (v := xs (i + 2).toNatClampNeg) rfl ?_
  refine z_aload_n X d_lw_1157 rfl 0 rfl ?_
  refine z_iload X d_lw_1158 4 rfl ?_
  refine z_iconst X d_lw_1160 (v := 3) (by decide) ?_
  refine z_iadd X d_lw_1161 ?_
  refine z_sld X hX hbl hbA (lw_in hi0 hi1 (k := 3) (by decide) (by decide)) d_lw_1162 (v := xs (i + 3).toNatClampNeg) rfl ?_
  refine z_aload_n X d_lw_1163 rfl 0 rfl ?_
  refine z_iload X d_lw_1164 4 rfl ?_
  refine z_iconst X d_lw_1166 (v := 4) (by decide) ?_
  refine z_iadd X d_lw_1167 ?_
  refine z_sld X hX hbl hbA (lw_in hi0 hi1 (k := 4) (by decide) (by decide)) d_lw_1168 (v := xs (i + 4).toNatClampNeg) rfl ?_
  refine mx_callF (k := 0) (wa := wx') (rest := []) (As := [.int (xs (i + 1).toNatClampNeg), .int (xs (i + 2).toNatClampNeg), .int (xs (i + 3).toNatClampNeg), .int (xs (i + 4).toNatClampNeg)]) (μ := (fun k => ((Value.ref y :: [.int (xs (i + 1).toNatClampNeg), .int (xs (i + 2).toNatClampNeg), .int (xs (i + 3).toNatClampNeg), .int (xs (i + 4).toNatClampNeg)])[k]?).getD .null)) X k_L_131 (ac_X11_men_0 l G) (by decide) (by decide) hy (fun ad w0 he => pre_mu (C := C_X11_men_0) (ts := [tI0, tI0, tI0, tI0]) (As := [.int (xs (i + 1).toNatClampNeg), .int (xs (i + 2).toNatClampNeg), .int (xs (i + 3).toNatClampNeg), .int (xs (i + 4).toNatClampNeg)]) rfl rfl rfl rfl ⟨fun _ => vty_i0 _, fun _ => vty_i0 _, fun _ => vty_i0 _, fun _ => vty_i0 _, trivial⟩ ad w0 he) rfl d_lw_1169 ⟨by decide, by decide⟩ ⟨hc, hs⟩ rfl rfl (Nat.le_of_ble_eq_true rfl) rfl (fun r wm' hr hy' hfm => ?_)
  rcases hr with ⟨h, -⟩ | ⟨-, v, rfl⟩ | ⟨h, -⟩
  all_goals first | (exact absurd h (by decide)) | skip
  refine z_pop X d_lw_1172 rfl ?_
  refine z_goto X d_lw_1173 (tgt := 2192) (by decide) ?_
  exact hK wx' wm' hx' hl' hy' (RelQ.of (hR.m.keep hfx hfm (by decide)) (hR.a.keep hfx hfm (by decide)) (hR.d.keep hfx hfm (by decide)) (hR.c.keep hfx hfm (by decide)) (hR.x.keep hfx hfm (by decide)) (hR.b.keep hfx hfm (by decide)) (hR.h.keep hfx hfm (by decide)) (hR.t.keep hfx hfm (by decide)) (hR.k.keep hfx hfm (by decide)))
theorem lc_25 (X : ZC p s m #[Value.ref b] meth c code 8 RL G (fun q : Nat => s.heap.size ≤ q) ret nm) (hX : va_X b L xs s s.heap) (hbl : b < s.heap.size) (hbA : ¬ s.heap.size ≤ b) (hi0 : 0 ≤ i.toInt) (hi1 : i.toInt + 10 ≤ (L : Int) ∧ L ≤ 5120) (hx : CWx G x wx) (hy : MWx G y wm) (hR : RelQ G wx wm) (hc : kc ≤ room_1.cells) (hs : ks ≤ room_1.slots) (hK : ∀ wx' wm', CWx G x wx' → wx'.length = wx.length → MWx G y wm' → RelQ G wx' wm' → Z p l e room_1 s m #[Value.ref b] below meth c 8 G (fun q : Nat => s.heap.size ≤ q) (lw_Z below #[Value.ref b] s) 2192 (lv5 b x y o i) [] (wx' ++ wm' ++ [(o, aJ G 1 f)]) kc ks) : Z p l e room_1 s m #[Value.ref b] below meth c 8 G (fun q : Nat => s.heap.size ≤ q) (lw_Z below #[Value.ref b] s) 1176 (lv5 b x y o i) [] (wx ++ wm ++ [(o, aJ G 1 f)]) kc ks := by
  refine z_aload_n X d_lw_1176 rfl 1 rfl ?_
  refine z_aload_n X d_lw_1177 rfl 0 rfl ?_
  refine z_iload X d_lw_1178 4 rfl ?_
  refine z_iconst X d_lw_1180 (v := 1) (by decide) ?_
  refine z_iadd X d_lw_1181 ?_
  refine z_sld X hX hbl hbA (lw_in hi0 hi1 (k := 1) (by decide) (by decide)) d_lw_1182 (v := xs (i + 1).toNatClampNeg) rfl ?_
  rw [List.append_assoc]
  refine cx_callF (k := 1) (rest := []) (As := [.int (xs (i + 1).toNatClampNeg)]) (μ := (fun k => ((Value.ref x :: [.int (xs (i + 1).toNatClampNeg)])[k]?).getD .null)) X k_L_132 (ac_X10_rest_0 l G) (by decide) (by decide) (by decide) hx (fun ad w0 he => pre_mu (C := C_X10_rest_0) (ts := [tI0]) (As := [.int (xs (i + 1).toNatClampNeg)]) rfl rfl rfl rfl ⟨fun _ => vty_i0 _, trivial⟩ ad w0 he) rfl d_lw_1183 ⟨by decide, by decide⟩ ⟨hc, hs⟩ rfl rfl (by decide) rfl (fun r wx' hr hx' hl' hfx => ?_)
  rw [← List.append_assoc]
  rcases hr with ⟨h, -⟩ | ⟨h, -⟩ | ⟨-, v, rfl⟩
  all_goals first | (exact absurd h (by decide)) | skip
  refine z_pop2 X d_lw_1186 rfl ?_
  refine z_aload_n X d_lw_1187 rfl 2 rfl ?_
  refine z_aload_n X d_lw_1188 rfl 0 rfl ?_
  refine z_iload X d_lw_1189 4 rfl ?_
  refine z_iconst X d_lw_1191 (v := 1) (by decide) ?_
  refine z_iadd X d_lw_1192 ?_
  refine z_sld X hX hbl hbA (lw_in hi0 hi1 (k := 1) (by decide) (by decide)) d_lw_1193 (v := xs (i + 1).toNatClampNeg) rfl ?_
  refine mx_callF (k := 1) (wa := wx') (rest := []) (As := [.int (xs (i + 1).toNatClampNeg)]) (μ := (fun k => ((Value.ref y :: [.int (xs (i + 1).toNatClampNeg)])[k]?).getD .null)) X k_L_135 (ac_X11_rest_0 l G) (by decide) (by decide) hy (fun ad w0 he => pre_mu (C := C_X11_rest_0) (ts := [tI0]) (As := [.int (xs (i + 1).toNatClampNeg)]) rfl rfl rfl rfl ⟨fun _ => vty_i0 _, trivial⟩ ad w0 he) rfl d_lw_1194 ⟨by decide, by decide⟩ ⟨hc, hs⟩ rfl rfl (Nat.le_of_ble_eq_true rfl) rfl (fun r wm' hr hy' hfm => ?_)
  rcases hr with ⟨h, -⟩ | ⟨h, -⟩ | ⟨-, v, rfl⟩
  all_goals first | (exact absurd h (by decide)) | skip
  refine z_pop2 X d_lw_1197 rfl ?_
  refine z_goto X d_lw_1198 (tgt := 2192) (by decide) ?_
  exact hK wx' wm' hx' hl' hy' (RelQ.of (hR.m.keep hfx hfm (by decide)) (hR.a.keep hfx hfm (by decide)) (hR.d.keep hfx hfm (by decide)) (hR.c.keep hfx hfm (by decide)) (hR.x.keep hfx hfm (by decide)) (hR.b.keep hfx hfm (by decide)) (hR.h.keep hfx hfm (by decide)) (hR.t.keep hfx hfm (by decide)) (hR.k.keep hfx hfm (by decide)))
theorem lc_26 (X : ZC p s m #[Value.ref b] meth c code 8 RL G (fun q : Nat => s.heap.size ≤ q) ret nm) (hX : va_X b L xs s s.heap) (hbl : b < s.heap.size) (hbA : ¬ s.heap.size ≤ b) (hi0 : 0 ≤ i.toInt) (hi1 : i.toInt + 10 ≤ (L : Int) ∧ L ≤ 5120) (hx : CWx G x wx) (hy : MWx G y wm) (hR : RelQ G wx wm) (hc : kc ≤ room_1.cells) (hs : ks ≤ room_1.slots) (hK : ∀ wx' wm', CWx G x wx' → wx'.length = wx.length → MWx G y wm' → RelQ G wx' wm' → Z p l e room_1 s m #[Value.ref b] below meth c 8 G (fun q : Nat => s.heap.size ≤ q) (lw_Z below #[Value.ref b] s) 2192 (lv5 b x y o i) [] (wx' ++ wm' ++ [(o, aJ G 1 f)]) kc ks) : Z p l e room_1 s m #[Value.ref b] below meth c 8 G (fun q : Nat => s.heap.size ≤ q) (lw_Z below #[Value.ref b] s) 1201 (lv5 b x y o i) [] (wx ++ wm ++ [(o, aJ G 1 f)]) kc ks := by
  refine z_aload_n X d_lw_1201 rfl 1 rfl ?_
  refine z_aload_n X d_lw_1202 rfl 0 rfl ?_
  refine z_iload X d_lw_1203 4 rfl ?_
  refine z_iconst X d_lw_1205 (v := 1) (by decide) ?_
  refine z_iadd X d_lw_1206 ?_
  refine z_sld X hX hbl hbA (lw_in hi0 hi1 (k := 1) (by decide) (by decide)) d_lw_1207 (v := xs (i + 1).toNatClampNeg) rfl ?_
  refine z_aload_n X d_lw_1208 rfl 0 rfl ?_
  refine z_iload X d_lw_1209 4 rfl ?_
  refine z_iconst X d_lw_1211 (v := 2) (by decide) ?_
  refine z_iadd X d_lw_1212 ?_
  refine z_sld X hX hbl hbA (lw_in hi0 hi1 (k := 2) (by decide) (by decide)) d_lw_1213 (v := xs (i + 2).toNatClampNeg) rfl ?_
  rw [List.append_assoc]
  refine cx_callF (k := 1) (rest := []) (As := [.int (xs (i + 1).toNatClampNeg), .int (xs (i + 2).toNatClampNeg)]) (μ := (fun k => ((Value.ref x :: [.int (xs (i + 1).toNatClampNeg), .int (xs (i + 2).toNatClampNeg)])[k]?).getD .null)) X k_L_136 (ac_t_X10_best_0 l G) (by decide) (by decide) (by decide) hx (fun ad w0 he => pre_mu (C := C_t_X10_best_0) (ts := [tI0, tI0]) (As := [.int (xs (i + 1).toNatClampNeg), .int (xs (i + 2).toNatClampNeg)]) rfl rfl rfl rfl ⟨fun _ => vty_i0 _, fun _ => vty_i0 _, trivial⟩ ad w0 he) rfl d_lw_1214 ⟨by decide, by decide⟩ ⟨hc, hs⟩ rfl rfl (by decide) rfl (fun r wx' hr hx' hl' hfx => ?_)
  rw [← List.append_assoc]
  rcases hr with ⟨h, -⟩ | ⟨h, -⟩ | ⟨-, v, rfl⟩
  all_goals first | (exact absurd h (by decide)) | skip
  refine z_pop2 X d_lw_1217 rfl ?_
  refine z_aload_n X d_lw_1218 rfl 2 rfl ?_
  refine z_aload_n X d_lw_1219 rfl 0 rfl ?_
  refine z_iload X d_lw_1220 4 rfl ?_
  refine z_iconst X d_lw_1222 (v := 1) (by decide) ?_
  refine z_iadd X d_lw_1223 ?_
  refine z_sld X hX hbl hbA (lw_in hi0 hi1 (k := 1) (by decide) (by decide)) d_lw_1224 (v := xs (i + 1).toNatClampNeg) rfl ?_
  refine z_aload_n X d_lw_1225 rfl 0 rfl ?_
  refine z_iload X d_lw_1226 4 rfl ?_
  refine z_iconst X d_lw_1228 (v := 2) (by decide) ?_
  refine z_iadd X d_lw_1229 ?_
  refine z_sld X hX hbl hbA (lw_in hi0 hi1 (k := 2) (by decide) (by decide)) d_lw_1230 (v := xs (i + 2).toNatClampNeg) rfl ?_
  refine mx_callF (k := 1) (wa := wx') (rest := []) (As := [.int (xs (i + 1).toNatClampNeg), .int (xs (i + 2).toNatClampNeg)]) (μ := (fun k => ((Value.ref y :: [.int (xs (i + 1).toNatClampNeg), .int (xs (i + 2).toNatClampNeg)])[k]?).getD .null)) X k_L_140 (ac_X11_best_0 l G) (by decide) (by decide) hy (fun ad w0 he => pre_mu (C := C_X11_best_0) (ts := [tI0, tI0]) (As := [.int (xs (i + 1).toNatClampNeg), .int (xs (i + 2).toNatClampNeg)]) rfl rfl rfl rfl ⟨fun _ => vty_i0 _, fun _ => vty_i0 _, trivial⟩ ad w0 he) rfl d_lw_1231 ⟨by decide, by decide⟩ ⟨hc, hs⟩ rfl rfl (Nat.le_of_ble_eq_true rfl) rfl (fun r wm' hr hy' hfm => ?_)
  rcases hr with ⟨h, -⟩ | ⟨h, -⟩ | ⟨-, v, rfl⟩
  all_goals first | (exact absurd h (by decide)) | skip
  refine z_pop2 X d_lw_1234 rfl ?_
  refine z_goto X d_lw_1235 (tgt := 2192) (by decide) ?_
  exact hK wx' wm' hx' hl' hy' (RelQ.of (hR.m.keep hfx hfm (by decide)) (hR.a.keep hfx hfm (by decide)) (hR.d.keep hfx hfm (by decide)) (hR.c.keep hfx hfm (by decide)) (hR.x.keep hfx hfm (by decide)) (hR.b.keep hfx hfm (by decide)) (hR.h.keep hfx hfm (by decide)) (hR.t.keep hfx hfm (by decide)) (hR.k.keep hfx hfm (by decide)))
theorem lc_27 (X : ZC p s m #[Value.ref b] meth c code 8 RL G (fun q : Nat => s.heap.size ≤ q) ret nm) (hX : va_X b L xs s s.heap) (hbl : b < s.heap.size) (hbA : ¬ s.heap.size ≤ b) (hi0 : 0 ≤ i.toInt) (hi1 : i.toInt + 10 ≤ (L : Int) ∧ L ≤ 5120) (hx : CWx G x wx) (hy : MWx G y wm) (hR : RelQ G wx wm) (hc : kc ≤ room_1.cells) (hs : ks ≤ room_1.slots) (hK : ∀ wx' wm', CWx G x wx' → wx'.length = wx.length → MWx G y wm' → RelQ G wx' wm' → Z p l e room_1 s m #[Value.ref b] below meth c 8 G (fun q : Nat => s.heap.size ≤ q) (lw_Z below #[Value.ref b] s) 2192 (lv5 b x y o i) [] (wx' ++ wm' ++ [(o, aJ G 1 f)]) kc ks) : Z p l e room_1 s m #[Value.ref b] below meth c 8 G (fun q : Nat => s.heap.size ≤ q) (lw_Z below #[Value.ref b] s) 1238 (lv5 b x y o i) [] (wx ++ wm ++ [(o, aJ G 1 f)]) kc ks := by
  refine z_aload_n X d_lw_1238 rfl 1 rfl ?_
  refine z_aload_n X d_lw_1239 rfl 0 rfl ?_
  refine z_iload X d_lw_1240 4 rfl ?_
  refine z_iconst X d_lw_1242 (v := 1) (by decide) ?_
  refine z_iadd X d_lw_1243 ?_
  refine z_sld X hX hbl hbA (lw_in hi0 hi1 (k := 1) (by decide) (by decide)) d_lw_1244 (v := xs (i + 1).toNatClampNeg) rfl ?_
  refine z_aload_n X d_lw_1245 rfl 0 rfl ?_
  refine z_iload X d_lw_1246 4 rfl ?_
  refine z_iconst X d_lw_1248 (v := 2) (by decide) ?_
  refine z_iadd X d_lw_1249 ?_
  refine z_sld X hX hbl hbA (lw_in hi0 hi1 (k := 2) (by decide) (by decide)) d_lw_1250 (v := xs (i + 2).toNatClampNeg) rfl ?_
  rw [List.append_assoc]
  refine cx_callF (k := 1) (rest := []) (As := [.int (xs (i + 1).toNatClampNeg), .int (xs (i + 2).toNatClampNeg)]) (μ := (fun k => ((Value.ref x :: [.int (xs (i + 1).toNatClampNeg), .int (xs (i + 2).toNatClampNeg)])[k]?).getD .null)) X k_L_141 (ac_t_X10_off_0 l G) (by decide) (by decide) (by decide) hx (fun ad w0 he => pre_mu (C := C_t_X10_off_0) (ts := [tI0, tI0]) (As := [.int (xs (i + 1).toNatClampNeg), .int (xs (i + 2).toNatClampNeg)]) rfl rfl rfl rfl ⟨fun _ => vty_i0 _, fun _ => vty_i0 _, trivial⟩ ad w0 he) rfl d_lw_1251 ⟨by decide, by decide⟩ ⟨hc, hs⟩ rfl rfl (by decide) rfl (fun r wx' hr hx' hl' hfx => ?_)
  rw [← List.append_assoc]
  rcases hr with ⟨h, -⟩ | ⟨h, -⟩ | ⟨-, v, rfl⟩
  all_goals first | (exact absurd h (by decide)) | skip
  refine z_pop2 X d_lw_1254 rfl ?_
  refine z_aload_n X d_lw_1255 rfl 2 rfl ?_
  refine z_aload_n X d_lw_1256 rfl 0 rfl ?_
  refine z_iload X d_lw_1257 4 rfl ?_
  refine z_iconst X d_lw_1259 (v := 1) (by decide) ?_
  refine z_iadd X d_lw_1260 ?_
  refine z_sld X hX hbl hbA (lw_in hi0 hi1 (k := 1) (by decide) (by decide)) d_lw_1261 (v := xs (i + 1).toNatClampNeg) rfl ?_
  refine z_aload_n X d_lw_1262 rfl 0 rfl ?_
  refine z_iload X d_lw_1263 4 rfl ?_
  refine z_iconst X d_lw_1265 (v := 2) (by decide) ?_
  refine z_iadd X d_lw_1266 ?_
  refine z_sld X hX hbl hbA (lw_in hi0 hi1 (k := 2) (by decide) (by decide)) d_lw_1267 (v := xs (i + 2).toNatClampNeg) rfl ?_
  refine mx_callF (k := 1) (wa := wx') (rest := []) (As := [.int (xs (i + 1).toNatClampNeg), .int (xs (i + 2).toNatClampNeg)]) (μ := (fun k => ((Value.ref y :: [.int (xs (i + 1).toNatClampNeg), .int (xs (i + 2).toNatClampNeg)])[k]?).getD .null)) X k_L_144 (ac_offq l G) (by decide) (by decide) hy (fun ad w0 he => pre_mu (C := C_offq) (ts := [tI0, tI0]) (As := [.int (xs (i + 1).toNatClampNeg), .int (xs (i + 2).toNatClampNeg)]) rfl rfl rfl rfl ⟨fun _ => vty_i0 _, fun _ => vty_i0 _, trivial⟩ ad w0 he) rfl d_lw_1268 ⟨by decide, by decide⟩ ⟨hc, hs⟩ rfl rfl (Nat.le_of_ble_eq_true rfl) rfl (fun r wm' hr hy' hfm => ?_)
  rcases hr with ⟨h, -⟩ | ⟨h, -⟩ | ⟨-, v, rfl⟩
  all_goals first | (exact absurd h (by decide)) | skip
  refine z_pop2 X d_lw_1271 rfl ?_
  refine z_goto X d_lw_1272 (tgt := 2192) (by decide) ?_
  exact hK wx' wm' hx' hl' hy' (RelQ.of (hR.m.keep hfx hfm (by decide)) (hR.a.keep hfx hfm (by decide)) (hR.d.keep hfx hfm (by decide)) (hR.c.keep hfx hfm (by decide)) (hR.x.keep hfx hfm (by decide)) (hR.b.keep hfx hfm (by decide)) (hR.h.keep hfx hfm (by decide)) (hR.t.keep hfx hfm (by decide)) (hR.k.keep hfx hfm (by decide)))
theorem lc_28 (X : ZC p s m #[Value.ref b] meth c code 8 RL G (fun q : Nat => s.heap.size ≤ q) ret nm) (hX : va_X b L xs s s.heap) (hbl : b < s.heap.size) (hbA : ¬ s.heap.size ≤ b) (hi0 : 0 ≤ i.toInt) (hi1 : i.toInt + 10 ≤ (L : Int) ∧ L ≤ 5120) (hx : CWx G x wx) (hy : MWx G y wm) (hR : RelQ G wx wm) (hc : kc ≤ room_1.cells) (hs : ks ≤ room_1.slots) (hK : ∀ wx' wm', CWx G x wx' → wx'.length = wx.length → MWx G y wm' → RelQ G wx' wm' → Z p l e room_1 s m #[Value.ref b] below meth c 8 G (fun q : Nat => s.heap.size ≤ q) (lw_Z below #[Value.ref b] s) 2192 (lv5 b x y o i) [] (wx' ++ wm' ++ [(o, aJ G 1 f)]) kc ks) : Z p l e room_1 s m #[Value.ref b] below meth c 8 G (fun q : Nat => s.heap.size ≤ q) (lw_Z below #[Value.ref b] s) 1275 (lv5 b x y o i) [] (wx ++ wm ++ [(o, aJ G 1 f)]) kc ks := by
  refine z_aload_n X d_lw_1275 rfl 1 rfl ?_
  refine z_aload_n X d_lw_1276 rfl 0 rfl ?_
  refine z_iload X d_lw_1277 4 rfl ?_
  refine z_iconst X d_lw_1279 (v := 1) (by decide) ?_
  refine z_iadd X d_lw_1280 ?_
  refine z_sld X hX hbl hbA (lw_in hi0 hi1 (k := 1) (by decide) (by decide)) d_lw_1281 (v := xs (i + 1).toNatClampNeg) rfl ?_
  refine z_aload_n X d_lw_1282 rfl 0 rfl ?_
  refine z_iload X d_lw_1283 4 rfl ?_
  refine z_iconst X d_lw_1285 (v := 2) (by decide) ?_
  refine z_iadd X d_lw_1286 ?_
  refine z_sld X hX hbl hbA (lw_in hi0 hi1 (k := 2) (by decide) (by decide)) d_lw_1287 (v := xs (i + 2).toNatClampNeg) rfl ?_
  rw [List.append_assoc]
  refine cx_callF (k := 1) (rest := []) (As := [.int (xs (i + 1).toNatClampNeg), .int (xs (i + 2).toNatClampNeg)]) (μ := (fun k => ((Value.ref x :: [.int (xs (i + 1).toNatClampNeg), .int (xs (i + 2).toNatClampNeg)])[k]?).getD .null)) X k_L_145 (ac_t_X10_instead_0 l G) (by decide) (by decide) (by decide) hx (fun ad w0 he => pre_mu (C := C_t_X10_instead_0) (ts := [tI0, tI0]) (As := [.int (xs (i + 1).toNatClampNeg), .int (xs (i + 2).toNatClampNeg)]) rfl rfl rfl rfl ⟨fun _ => vty_i0 _, fun _ => vty_i0 _, trivial⟩ ad w0 he) rfl d_lw_1288 ⟨by decide, by decide⟩ ⟨hc, hs⟩ rfl rfl (by decide) rfl (fun r wx' hr hx' hl' hfx => ?_)
  rw [← List.append_assoc]
  rcases hr with ⟨h, -⟩ | ⟨h, -⟩ | ⟨-, v, rfl⟩
  all_goals first | (exact absurd h (by decide)) | skip
  refine z_pop2 X d_lw_1291 rfl ?_
  refine z_aload_n X d_lw_1292 rfl 2 rfl ?_
  refine z_aload_n X d_lw_1293 rfl 0 rfl ?_
  refine z_iload X d_lw_1294 4 rfl ?_
  refine z_iconst X d_lw_1296 (v := 1) (by decide) ?_
  refine z_iadd X d_lw_1297 ?_
  refine z_sld X hX hbl hbA (lw_in hi0 hi1 (k := 1) (by decide) (by decide)) d_lw_1298 (v := xs (i + 1).toNatClampNeg) rfl ?_
  refine z_aload_n X d_lw_1299 rfl 0 rfl ?_
  refine z_iload X d_lw_1300 4 rfl ?_
  refine z_iconst X d_lw_1302 (v := 2) (by decide) ?_
  refine z_iadd X d_lw_1303 ?_
  refine z_sld X hX hbl hbA (lw_in hi0 hi1 (k := 2) (by decide) (by decide)) d_lw_1304 (v := xs (i + 2).toNatClampNeg) rfl ?_
  refine mx_callF (k := 1) (wa := wx') (rest := []) (As := [.int (xs (i + 1).toNatClampNeg), .int (xs (i + 2).toNatClampNeg)]) (μ := (fun k => ((Value.ref y :: [.int (xs (i + 1).toNatClampNeg), .int (xs (i + 2).toNatClampNeg)])[k]?).getD .null)) X k_L_148 (ac_X11_instead_0 l G) (by decide) (by decide) hy (fun ad w0 he => pre_mu (C := C_X11_instead_0) (ts := [tI0, tI0]) (As := [.int (xs (i + 1).toNatClampNeg), .int (xs (i + 2).toNatClampNeg)]) rfl rfl rfl rfl ⟨fun _ => vty_i0 _, fun _ => vty_i0 _, trivial⟩ ad w0 he) rfl d_lw_1305 ⟨by decide, by decide⟩ ⟨hc, hs⟩ rfl rfl (Nat.le_of_ble_eq_true rfl) rfl (fun r wm' hr hy' hfm => ?_)
  rcases hr with ⟨h, -⟩ | ⟨h, -⟩ | ⟨-, v, rfl⟩
  all_goals first | (exact absurd h (by decide)) | skip
  refine z_pop2 X d_lw_1308 rfl ?_
  refine z_goto X d_lw_1309 (tgt := 2192) (by decide) ?_
  exact hK wx' wm' hx' hl' hy' (RelQ.of (hR.m.keep hfx hfm (by decide)) (hR.a.keep hfx hfm (by decide)) (hR.d.keep hfx hfm (by decide)) (hR.c.keep hfx hfm (by decide)) (hR.x.keep hfx hfm (by decide)) (hR.b.keep hfx hfm (by decide)) (hR.h.keep hfx hfm (by decide)) (hR.t.keep hfx hfm (by decide)) (hR.k.keep hfx hfm (by decide)))
theorem lc_29 (X : ZC p s m #[Value.ref b] meth c code 8 RL G (fun q : Nat => s.heap.size ≤ q) ret nm) (hX : va_X b L xs s s.heap) (hbl : b < s.heap.size) (hbA : ¬ s.heap.size ≤ b) (hi0 : 0 ≤ i.toInt) (hi1 : i.toInt + 10 ≤ (L : Int) ∧ L ≤ 5120) (hx : CWx G x wx) (hy : MWx G y wm) (hR : RelQ G wx wm) (hc : kc ≤ room_1.cells) (hs : ks ≤ room_1.slots) (hK : ∀ wx' wm', CWx G x wx' → wx'.length = wx.length → MWx G y wm' → RelQ G wx' wm' → Z p l e room_1 s m #[Value.ref b] below meth c 8 G (fun q : Nat => s.heap.size ≤ q) (lw_Z below #[Value.ref b] s) 2192 (lv5 b x y o i) [] (wx' ++ wm' ++ [(o, aJ G 1 f)]) kc ks) : Z p l e room_1 s m #[Value.ref b] below meth c 8 G (fun q : Nat => s.heap.size ≤ q) (lw_Z below #[Value.ref b] s) 1312 (lv5 b x y o i) [] (wx ++ wm ++ [(o, aJ G 1 f)]) kc ks := by
  refine z_aload_n X d_lw_1312 rfl 1 rfl ?_
  refine z_aload_n X d_lw_1313 rfl 0 rfl ?_
  refine z_iload X d_lw_1314 4 rfl ?_
  refine z_iconst X d_lw_1316 (v := 1) (by decide) ?_
  refine z_iadd X d_lw_1317 ?_
  refine z_sld X hX hbl hbA (lw_in hi0 hi1 (k := 1) (by decide) (by decide)) d_lw_1318 (v := xs (i + 1).toNatClampNeg) rfl ?_
  refine z_aload_n X d_lw_1319 rfl 0 rfl ?_
  refine z_iload X d_lw_1320 4 rfl ?_
  refine z_iconst X d_lw_1322 (v := 2) (by decide) ?_
  refine z_iadd X d_lw_1323 ?_
  refine z_sld X hX hbl hbA (lw_in hi0 hi1 (k := 2) (by decide) (by decide)) d_lw_1324 (v := xs (i + 2).toNatClampNeg) rfl ?_
  refine z_i2l X d_lw_1325 rfl ?_
  refine z_bipush X d_lw_1326 (v := 32) (by decide) ?_
  refine z_lshl X d_lw_1328 (v := (((xs (i + 2).toNatClampNeg).toInt64) <<< (((32 : Int32)).toInt64 &&& 63))) rfl ?_
  refine z_aload_n X d_lw_1329 rfl 0 rfl ?_
  refine z_iload X d_lw_1330 4 rfl ?_
  refine z_iconst X d_lw_1332 (v := 3) (by decide) ?_
  refine z_iadd X d_lw_1333 ?_
  refine z_sld X hX hbl hbA (lw_in hi0 hi1 (k := 3) (by decide) (by decide)) d_lw_1334 (v := xs (i + 3).toNatClampNeg) rfl ?_
  refine z_i2l X d_lw_1335 rfl ?_
  refine z_ldc2 X d_lw_1336 (v := 4294967295) cn_L_149 ?_
  refine z_land X d_lw_1339 ?_
  refine z_lor X d_lw_1340 ?_
  rw [List.append_assoc]
  refine cx_callF (k := 0) (rest := []) (As := [.int (xs (i + 1).toNatClampNeg), .long ((((((xs (i + 2).toNatClampNeg).toInt64) <<< (((32 : Int32)).toInt64 &&& 63))) ||| ((((xs (i + 3).toNatClampNeg).toInt64) &&& ((4294967295 : Int64))))))]) (μ := (fun k => ((Value.ref x :: [.int (xs (i + 1).toNatClampNeg), .long ((((((xs (i + 2).toNatClampNeg).toInt64) <<< (((32 : Int32)).toInt64 &&& 63))) ||| ((((xs (i + 3).toNatClampNeg).toInt64) &&& ((4294967295 : Int64))))))])[k]?).getD .null)) X k_L_151 (ac_t_X10_fewest_0 l G) (by decide) (by decide) (by decide) hx (fun ad w0 he => pre_mu (C := C_t_X10_fewest_0) (ts := [tI0, tL0]) (As := [.int (xs (i + 1).toNatClampNeg), .long ((((((xs (i + 2).toNatClampNeg).toInt64) <<< (((32 : Int32)).toInt64 &&& 63))) ||| ((((xs (i + 3).toNatClampNeg).toInt64) &&& ((4294967295 : Int64))))))]) rfl rfl rfl rfl ⟨fun _ => vty_i0 _, fun _ => vty_l0 _, trivial⟩ ad w0 he) rfl d_lw_1341 ⟨by decide, by decide⟩ ⟨hc, hs⟩ rfl rfl (by decide) rfl (fun r wx' hr hx' hl' hfx => ?_)
  rw [← List.append_assoc]
  rcases hr with ⟨h, -⟩ | ⟨-, v, rfl⟩ | ⟨h, -⟩
  all_goals first | (exact absurd h (by decide)) | skip
  refine z_pop X d_lw_1344 rfl ?_
  refine z_aload_n X d_lw_1345 rfl 2 rfl ?_
  refine z_aload_n X d_lw_1346 rfl 0 rfl ?_
  refine z_iload X d_lw_1347 4 rfl ?_
  refine z_iconst X d_lw_1349 (v := 1) (by decide) ?_
  refine z_iadd X d_lw_1350 ?_
  refine z_sld X hX hbl hbA (lw_in hi0 hi1 (k := 1) (by decide) (by decide)) d_lw_1351 (v := xs (i + 1).toNatClampNeg) rfl ?_
  refine z_aload_n X d_lw_1352 rfl 0 rfl ?_
  refine z_iload X d_lw_1353 4 rfl ?_
  refine z_iconst X d_lw_1355 (v := 2) (by decide) ?_
  refine z_iadd X d_lw_1356 ?_
  refine z_sld X hX hbl hbA (lw_in hi0 hi1 (k := 2) (by decide) (by decide)) d_lw_1357 (v := xs (i + 2).toNatClampNeg) rfl ?_
  refine z_i2l X d_lw_1358 rfl ?_
  refine z_bipush X d_lw_1359 (v := 32) (by decide) ?_
  refine z_lshl X d_lw_1361 (v := (((xs (i + 2).toNatClampNeg).toInt64) <<< (((32 : Int32)).toInt64 &&& 63))) rfl ?_
  refine z_aload_n X d_lw_1362 rfl 0 rfl ?_
  refine z_iload X d_lw_1363 4 rfl ?_
  refine z_iconst X d_lw_1365 (v := 3) (by decide) ?_
  refine z_iadd X d_lw_1366 ?_
  refine z_sld X hX hbl hbA (lw_in hi0 hi1 (k := 3) (by decide) (by decide)) d_lw_1367 (v := xs (i + 3).toNatClampNeg) rfl ?_
  refine z_i2l X d_lw_1368 rfl ?_
  refine z_ldc2 X d_lw_1369 (v := 4294967295) cn_L_149 ?_
  refine z_land X d_lw_1372 ?_
  refine z_lor X d_lw_1373 ?_
  refine mx_callF (k := 0) (wa := wx') (rest := []) (As := [.int (xs (i + 1).toNatClampNeg), .long ((((((xs (i + 2).toNatClampNeg).toInt64) <<< (((32 : Int32)).toInt64 &&& 63))) ||| ((((xs (i + 3).toNatClampNeg).toInt64) &&& ((4294967295 : Int64))))))]) (μ := (fun k => ((Value.ref y :: [.int (xs (i + 1).toNatClampNeg), .long ((((((xs (i + 2).toNatClampNeg).toInt64) <<< (((32 : Int32)).toInt64 &&& 63))) ||| ((((xs (i + 3).toNatClampNeg).toInt64) &&& ((4294967295 : Int64))))))])[k]?).getD .null)) X k_L_155 (ac_X11_fewest_0 l G) (by decide) (by decide) hy (fun ad w0 he => pre_mu (C := C_X11_fewest_0) (ts := [tI0, tL0]) (As := [.int (xs (i + 1).toNatClampNeg), .long ((((((xs (i + 2).toNatClampNeg).toInt64) <<< (((32 : Int32)).toInt64 &&& 63))) ||| ((((xs (i + 3).toNatClampNeg).toInt64) &&& ((4294967295 : Int64))))))]) rfl rfl rfl rfl ⟨fun _ => vty_i0 _, fun _ => vty_l0 _, trivial⟩ ad w0 he) rfl d_lw_1374 ⟨by decide, by decide⟩ ⟨hc, hs⟩ rfl rfl (Nat.le_of_ble_eq_true rfl) rfl (fun r wm' hr hy' hfm => ?_)
  rcases hr with ⟨h, -⟩ | ⟨-, v, rfl⟩ | ⟨h, -⟩
  all_goals first | (exact absurd h (by decide)) | skip
  refine z_pop X d_lw_1377 rfl ?_
  refine z_goto X d_lw_1378 (tgt := 2192) (by decide) ?_
  exact hK wx' wm' hx' hl' hy' (RelQ.of (hR.m.keep hfx hfm (by decide)) (hR.a.keep hfx hfm (by decide)) (hR.d.keep hfx hfm (by decide)) (hR.c.keep hfx hfm (by decide)) (hR.x.keep hfx hfm (by decide)) (hR.b.keep hfx hfm (by decide)) (hR.h.keep hfx hfm (by decide)) (hR.t.keep hfx hfm (by decide)) (hR.k.keep hfx hfm (by decide)))
theorem lc_30 (X : ZC p s m #[Value.ref b] meth c code 8 RL G (fun q : Nat => s.heap.size ≤ q) ret nm) (hX : va_X b L xs s s.heap) (hbl : b < s.heap.size) (hbA : ¬ s.heap.size ≤ b) (hi0 : 0 ≤ i.toInt) (hi1 : i.toInt + 10 ≤ (L : Int) ∧ L ≤ 5120) (hx : CWx G x wx) (hy : MWx G y wm) (hR : RelQ G wx wm) (hc : kc ≤ room_1.cells) (hs : ks ≤ room_1.slots) (hK : ∀ wx' wm', CWx G x wx' → wx'.length = wx.length → MWx G y wm' → RelQ G wx' wm' → Z p l e room_1 s m #[Value.ref b] below meth c 8 G (fun q : Nat => s.heap.size ≤ q) (lw_Z below #[Value.ref b] s) 2192 (lv5 b x y o i) [] (wx' ++ wm' ++ [(o, aJ G 1 f)]) kc ks) : Z p l e room_1 s m #[Value.ref b] below meth c 8 G (fun q : Nat => s.heap.size ≤ q) (lw_Z below #[Value.ref b] s) 1381 (lv5 b x y o i) [] (wx ++ wm ++ [(o, aJ G 1 f)]) kc ks := by
  refine z_aload_n X d_lw_1381 rfl 1 rfl ?_
  refine z_aload_n X d_lw_1382 rfl 0 rfl ?_
  refine z_iload X d_lw_1383 4 rfl ?_
  refine z_iconst X d_lw_1385 (v := 1) (by decide) ?_
  refine z_iadd X d_lw_1386 ?_
  refine z_sld X hX hbl hbA (lw_in hi0 hi1 (k := 1) (by decide) (by decide)) d_lw_1387 (v := xs (i + 1).toNatClampNeg) rfl ?_
  refine z_aload_n X d_lw_1388 rfl 0 rfl ?_
  refine z_iload X d_lw_1389 4 rfl ?_
  refine z_iconst X d_lw_1391 (v := 2) (by decide) ?_
  refine z_iadd X d_lw_1392 ?_
  refine z_sld X hX hbl hbA (lw_in hi0 hi1 (k := 2) (by decide) (by decide)) d_lw_1393 (v := xs (i + 2).toNatClampNeg) rfl ?_
  rw [List.append_assoc]
  refine cx_callF (k := 1) (rest := []) (As := [.int (xs (i + 1).toNatClampNeg), .int (xs (i + 2).toNatClampNeg)]) (μ := (fun k => ((Value.ref x :: [.int (xs (i + 1).toNatClampNeg), .int (xs (i + 2).toNatClampNeg)])[k]?).getD .null)) X k_L_156 (ac_t_X10_all_0 l G) (by decide) (by decide) (by decide) hx (fun ad w0 he => pre_mu (C := C_t_X10_all_0) (ts := [tI0, tI0]) (As := [.int (xs (i + 1).toNatClampNeg), .int (xs (i + 2).toNatClampNeg)]) rfl rfl rfl rfl ⟨fun _ => vty_i0 _, fun _ => vty_i0 _, trivial⟩ ad w0 he) rfl d_lw_1394 ⟨by decide, by decide⟩ ⟨hc, hs⟩ rfl rfl (by decide) rfl (fun r wx' hr hx' hl' hfx => ?_)
  rw [← List.append_assoc]
  rcases hr with ⟨h, -⟩ | ⟨h, -⟩ | ⟨-, v, rfl⟩
  all_goals first | (exact absurd h (by decide)) | skip
  refine z_pop2 X d_lw_1397 rfl ?_
  refine z_aload_n X d_lw_1398 rfl 2 rfl ?_
  refine z_aload_n X d_lw_1399 rfl 0 rfl ?_
  refine z_iload X d_lw_1400 4 rfl ?_
  refine z_iconst X d_lw_1402 (v := 1) (by decide) ?_
  refine z_iadd X d_lw_1403 ?_
  refine z_sld X hX hbl hbA (lw_in hi0 hi1 (k := 1) (by decide) (by decide)) d_lw_1404 (v := xs (i + 1).toNatClampNeg) rfl ?_
  refine z_aload_n X d_lw_1405 rfl 0 rfl ?_
  refine z_iload X d_lw_1406 4 rfl ?_
  refine z_iconst X d_lw_1408 (v := 2) (by decide) ?_
  refine z_iadd X d_lw_1409 ?_
  refine z_sld X hX hbl hbA (lw_in hi0 hi1 (k := 2) (by decide) (by decide)) d_lw_1410 (v := xs (i + 2).toNatClampNeg) rfl ?_
  refine mx_callF (k := 1) (wa := wx') (rest := []) (As := [.int (xs (i + 1).toNatClampNeg), .int (xs (i + 2).toNatClampNeg)]) (μ := (fun k => ((Value.ref y :: [.int (xs (i + 1).toNatClampNeg), .int (xs (i + 2).toNatClampNeg)])[k]?).getD .null)) X k_L_159 (ac_X11_all_0 l G) (by decide) (by decide) hy (fun ad w0 he => pre_mu (C := C_X11_all_0) (ts := [tI0, tI0]) (As := [.int (xs (i + 1).toNatClampNeg), .int (xs (i + 2).toNatClampNeg)]) rfl rfl rfl rfl ⟨fun _ => vty_i0 _, fun _ => vty_i0 _, trivial⟩ ad w0 he) rfl d_lw_1411 ⟨by decide, by decide⟩ ⟨hc, hs⟩ rfl rfl (Nat.le_of_ble_eq_true rfl) rfl (fun r wm' hr hy' hfm => ?_)
  rcases hr with ⟨h, -⟩ | ⟨h, -⟩ | ⟨-, v, rfl⟩
  all_goals first | (exact absurd h (by decide)) | skip
  refine z_pop2 X d_lw_1414 rfl ?_
  refine z_goto X d_lw_1415 (tgt := 2192) (by decide) ?_
  exact hK wx' wm' hx' hl' hy' (RelQ.of (hR.m.keep hfx hfm (by decide)) (hR.a.keep hfx hfm (by decide)) (hR.d.keep hfx hfm (by decide)) (hR.c.keep hfx hfm (by decide)) (hR.x.keep hfx hfm (by decide)) (hR.b.keep hfx hfm (by decide)) (hR.h.keep hfx hfm (by decide)) (hR.t.keep hfx hfm (by decide)) (hR.k.keep hfx hfm (by decide)))
theorem lc_31 (X : ZC p s m #[Value.ref b] meth c code 8 RL G (fun q : Nat => s.heap.size ≤ q) ret nm) (hX : va_X b L xs s s.heap) (hbl : b < s.heap.size) (hbA : ¬ s.heap.size ≤ b) (hi0 : 0 ≤ i.toInt) (hi1 : i.toInt + 10 ≤ (L : Int) ∧ L ≤ 5120) (hx : CWx G x wx) (hy : MWx G y wm) (hR : RelQ G wx wm) (hc : kc ≤ room_1.cells) (hs : ks ≤ room_1.slots) (hK : ∀ wx' wm', CWx G x wx' → wx'.length = wx.length → MWx G y wm' → RelQ G wx' wm' → Z p l e room_1 s m #[Value.ref b] below meth c 8 G (fun q : Nat => s.heap.size ≤ q) (lw_Z below #[Value.ref b] s) 2192 (lv5 b x y o i) [] (wx' ++ wm' ++ [(o, aJ G 1 f)]) kc ks) : Z p l e room_1 s m #[Value.ref b] below meth c 8 G (fun q : Nat => s.heap.size ≤ q) (lw_Z below #[Value.ref b] s) 1418 (lv5 b x y o i) [] (wx ++ wm ++ [(o, aJ G 1 f)]) kc ks := by
  obtain ⟨n, h9, s9, c9, f9, g9, ⟨n0, n1⟩, rc9, e9, ⟨hn1, hn2⟩, ⟨a2, b2⟩, ⟨a3, b3⟩, ⟨a4, b4⟩, a5, b5⟩ := id hR.m
  refine z_aload_n X d_lw_1418 rfl 1 rfl ?_
  refine z_aload_n X d_lw_1419 rfl 0 rfl ?_
  refine z_iload X d_lw_1420 4 rfl ?_
  refine z_iconst X d_lw_1422 (v := 1) (by decide) ?_
  refine z_iadd X d_lw_1423 ?_
  refine z_sld X hX hbl hbA (lw_in hi0 hi1 (k := 1) (by decide) (by decide)) d_lw_1424 (v := xs (i + 1).toNatClampNeg) rfl ?_
  refine z_aload_n X d_lw_1425 rfl 0 rfl ?_
  refine z_iload X d_lw_1426 4 rfl ?_
  refine z_iconst X d_lw_1428 (v := 2) (by decide) ?_
  refine z_iadd X d_lw_1429 ?_
  refine z_sld X hX hbl hbA (lw_in hi0 hi1 (k := 2) (by decide) (by decide)) d_lw_1430 (v := xs (i + 2).toNatClampNeg) rfl ?_
  obtain ⟨hh9, hq, hg, hr, x1, x2, x3, x4, x5, x6, x7⟩ := id hR.h
  obtain rfl := some_int (a2.symm.trans x1)
  obtain ⟨ha0, sa0, ca0, ⟨eh1, es1, ec1⟩, ⟨pq, pg, pa, pb, pe⟩, ⟨rq, rg, ra, rb, re⟩, ⟨fq, fg, fa, fb, fe⟩, ⟨oq, og, oa, ob1, oe⟩, ⟨wq, wg, wa1, wb1, we⟩⟩ := id hR.a
  obtain rfl := some_int (a2.symm.trans eh1)
  obtain rfl := some_int (a3.symm.trans es1)
  obtain rfl := some_int (a4.symm.trans ec1)
  obtain ⟨tq, tX9, tY9, t1, t2, t3, t4, t5⟩ := id hR.t
  obtain ⟨hd1, eh3, ⟨xq, xg, xa, xb, xe⟩, ⟨yq, yg, ya, yb, ye⟩⟩ := id hR.x
  obtain rfl := some_int (a2.symm.trans eh3)
  obtain ⟨hb9, sb9, cb9, ⟨bh1, bs1, bc1⟩, ⟨bx, bx1, bx2⟩, ⟨by_, by1, by2⟩, ⟨bf, bf1, bf2⟩, ⟨bo, bo1, bo2⟩, ⟨bw, bw1, bw2⟩⟩ := id hR.b
  obtain rfl := some_int (a2.symm.trans bh1)
  obtain rfl := some_int (a3.symm.trans bs1)
  obtain rfl := some_int (a4.symm.trans bc1)
  obtain rfl := arrinj (ra.symm.trans x4)
  obtain rfl := arrinj (xa.symm.trans bx1)
  obtain rfl := arrinj (ya.symm.trans by1)
  have r9_ := cwx_ints hx (k := 9) (n := 16) (a := 0) (b := 9) rfl rfl ra
  have q9_ := cwx_ints hx (k := 10) (n := 16) (a := 0) (b := 9) rfl rfl x2
  have p9_ := cwx_ints hx (k := 6) (n := 16) (a := 0) (b := 1) rfl rfl pa
  have hsb := SB.of (h := h9.toInt) (fp := pq) (fh := hq) (fr := rq) (fx := xq) (fy := yq) (t := tq) (pq := (xs (i + 1).toNatClampNeg)) rc9.1.2 p9_ q9_ r9_ bx2 by2 t5
  rw [List.append_assoc]
  refine cx_callG (rm := { frames := 4, cells := 0, slots := 0, locals := 102 }) (m0 := C_X10_ounce_0.2.2.2.2.1) (Ψ := (fun r _ => ∃ v9 : Int32, r = some (.int v9) ∧ v9.toInt = mOunce (xs (i + 1).toNatClampNeg).toInt (xs (i + 2).toNatClampNeg).toInt (bO pq hq rq xq yq ((tX tq (xs (i + 1).toNatClampNeg)) + lw pq hq xq (xs (i + 1).toNatClampNeg).toInt h9.toInt.toNat) ((tY tq (xs (i + 1).toNatClampNeg)) + lw pq hq yq (xs (i + 1).toNatClampNeg).toInt h9.toInt.toNat) (xs (i + 1).toNatClampNeg).toInt (xs (i + 2).toNatClampNeg).toInt h9.toInt.toNat))) (rest := []) (As := [.int (xs (i + 1).toNatClampNeg), .int (xs (i + 2).toNatClampNeg)]) X k_L_160 (fun ad w0 hW hag => ac_oux l G hW ((fget_eq (hag 5 0 (by decide))).trans a2) ((hag 6 0 (by decide)).trans pa) ((hag 7 0 (by decide)).trans xa) ((hag 8 0 (by decide)).trans ya) ((hag 10 0 (by decide)).trans x2) ((hag 9 0 (by decide)).trans ra) ((hag 105 0 (by decide)).trans t1) hsb) ⟨rfl, rfl⟩ (by decide) (fun r w1 wc hl h => h) hx d_lw_1431 ⟨by decide, by decide⟩ ⟨hc, hs⟩ rfl rfl (by decide) rfl (fun r wx' hz hx' hl' hfx => ?_)
  rw [← List.append_assoc]
  obtain ⟨v, rfl⟩ := (hz.elim fun v9 h => ⟨v9, h.1⟩ : ∃ v : Int32, r = some (Value.int v))
  refine z_aload_n X d_lw_1434 rfl 2 rfl ?_
  refine z_aload_n X d_lw_1435 rfl 0 rfl ?_
  refine z_iload X d_lw_1436 4 rfl ?_
  refine z_iconst X d_lw_1438 (v := 1) (by decide) ?_
  refine z_iadd X d_lw_1439 ?_
  refine z_sld X hX hbl hbA (lw_in hi0 hi1 (k := 1) (by decide) (by decide)) d_lw_1440 (v := xs (i + 1).toNatClampNeg) rfl ?_
  refine z_aload_n X d_lw_1441 rfl 0 rfl ?_
  refine z_iload X d_lw_1442 4 rfl ?_
  refine z_iconst X d_lw_1444 (v := 2) (by decide) ?_
  refine z_iadd X d_lw_1445 ?_
  refine z_sld X hX hbl hbA (lw_in hi0 hi1 (k := 2) (by decide) (by decide)) d_lw_1446 (v := xs (i + 2).toNatClampNeg) rfl ?_
  refine mx_callG (rm := { frames := 3, cells := 0, slots := 0, locals := 69 }) (m0 := C_X11_ounce_0.2.2.2.2.1) (Ψ := (fun r _ => ∃ v9 : Int32, r = some (.int v9) ∧ v9.toInt = mOunce (xs (i + 1).toNatClampNeg).toInt (xs (i + 2).toNatClampNeg).toInt (bO pg hg rg xg yg ((tX9 (xs (i + 1).toNatClampNeg).toNatClampNeg) + lw pg hg xg (xs (i + 1).toNatClampNeg).toInt h9.toInt.toNat) ((tY9 (xs (i + 1).toNatClampNeg).toNatClampNeg) + lw pg hg yg (xs (i + 1).toNatClampNeg).toInt h9.toInt.toNat) (xs (i + 1).toNatClampNeg).toInt (xs (i + 2).toNatClampNeg).toInt h9.toInt.toNat))) (wa := wx') (rest := [.int v]) (As := [.int (xs (i + 1).toNatClampNeg), .int (xs (i + 2).toNatClampNeg)]) X k_L_163 (fun ad hW => ac_oum l G hW b2 pb xb yb x3 rb t2 t3) ⟨rfl, rfl⟩ hy d_lw_1447 ⟨by decide, by decide⟩ ⟨hc, hs⟩ rfl rfl (Nat.le_of_ble_eq_true rfl) rfl (fun r wm' hz2 hy' hfm => ?_)
  obtain ⟨v2, rfl⟩ := (hz2.elim fun v9 h => ⟨v9, h.1⟩ : ∃ v : Int32, r = some (Value.int v))
  obtain ⟨ev0, hM'⟩ := (⟨Int32.toInt_inj.mp ((ex_int hz).trans ((ounce_same (fun j hj => pe j (by omega) hj) (fun j hj => re j (by omega) hj) (fun j hj => xe j (by omega) hj) (fun j hj => ye j (by omega) hj) (fun j hj => x5 j (by omega) hj) (fun hp => tXY t4 hp)).trans (ex_int hz2).symm)), RelQ.of (hR.m.keep hfx hfm (by decide)) (hR.a.keep hfx hfm (by decide)) (hR.d.keep hfx hfm (by decide)) (hR.c.keep hfx hfm (by decide)) (hR.x.keep hfx hfm (by decide)) (hR.b.keep hfx hfm (by decide)) (hR.h.keep hfx hfm (by decide)) (hR.t.keep hfx hfm (by decide)) (hR.k.keep hfx hfm (by decide))⟩ : v = v2 ∧ RelQ G wx' wm')
  have hR' : RelQ G wx' wm' := hM'
  have ev : v.toInt = v2.toInt := congrArg Int32.toInt ev0
  refine zc_eq X d_lw_1450 (tgt := 2192) (by decide) (a := v.toInt) (b := v2.toInt) rfl rfl (fun _ => ?_) (fun h => absurd ev h)
  exact hK wx' wm' hx' hl' hy' hR'
theorem lc_32 (X : ZC p s m #[Value.ref b] meth c code 8 RL G (fun q : Nat => s.heap.size ≤ q) ret nm) (hX : va_X b L xs s s.heap) (hbl : b < s.heap.size) (hbA : ¬ s.heap.size ≤ b) (hi0 : 0 ≤ i.toInt) (hi1 : i.toInt + 10 ≤ (L : Int) ∧ L ≤ 5120) (hx : CWx G x wx) (hy : MWx G y wm) (hR : RelQ G wx wm) (hc : kc ≤ room_1.cells) (hs : ks ≤ room_1.slots) (hK : ∀ wx' wm', CWx G x wx' → wx'.length = wx.length → MWx G y wm' → RelQ G wx' wm' → Z p l e room_1 s m #[Value.ref b] below meth c 8 G (fun q : Nat => s.heap.size ≤ q) (lw_Z below #[Value.ref b] s) 2192 (lv5 b x y o i) [] (wx' ++ wm' ++ [(o, aJ G 1 f)]) kc ks) : Z p l e room_1 s m #[Value.ref b] below meth c 8 G (fun q : Nat => s.heap.size ≤ q) (lw_Z below #[Value.ref b] s) 1455 (lv5 b x y o i) [] (wx ++ wm ++ [(o, aJ G 1 f)]) kc ks := by
  obtain ⟨n, h9, s9, c9, f9, g9, ⟨n0, n1⟩, rc9, e9, ⟨hn1, hn2⟩, ⟨a2, b2⟩, ⟨a3, b3⟩, ⟨a4, b4⟩, a5, b5⟩ := id hR.m
  refine z_aload_n X d_lw_1455 rfl 1 rfl ?_
  refine z_aload_n X d_lw_1456 rfl 0 rfl ?_
  refine z_iload X d_lw_1457 4 rfl ?_
  refine z_iconst X d_lw_1459 (v := 1) (by decide) ?_
  refine z_iadd X d_lw_1460 ?_
  refine z_sld X hX hbl hbA (lw_in hi0 hi1 (k := 1) (by decide) (by decide)) d_lw_1461 (v := xs (i + 1).toNatClampNeg) rfl ?_
  obtain ⟨hh9, hq, hg, hr, x1, x2, x3, x4, x5, x6, x7⟩ := id hR.h
  obtain rfl := some_int (a2.symm.trans x1)
  obtain ⟨ha0, sa0, ca0, ⟨eh1, es1, ec1⟩, ⟨pq, pg, pa, pb, pe⟩, ⟨rq, rg, ra, rb, re⟩, ⟨fq, fg, fa, fb, fe⟩, ⟨oq, og, oa, ob1, oe⟩, ⟨wq, wg, wa1, wb1, we⟩⟩ := id hR.a
  obtain rfl := some_int (a2.symm.trans eh1)
  obtain rfl := some_int (a3.symm.trans es1)
  obtain rfl := some_int (a4.symm.trans ec1)
  obtain ⟨tq, tX9, tY9, t1, t2, t3, t4, t5⟩ := id hR.t
  obtain ⟨hd1, eh3, ⟨xq, xg, xa, xb, xe⟩, ⟨yq, yg, ya, yb, ye⟩⟩ := id hR.x
  obtain rfl := some_int (a2.symm.trans eh3)
  obtain ⟨hb9, sb9, cb9, ⟨bh1, bs1, bc1⟩, ⟨bx, bx1, bx2⟩, ⟨by_, by1, by2⟩, ⟨bf, bf1, bf2⟩, ⟨bo, bo1, bo2⟩, ⟨bw, bw1, bw2⟩⟩ := id hR.b
  obtain rfl := some_int (a2.symm.trans bh1)
  obtain rfl := some_int (a3.symm.trans bs1)
  obtain rfl := some_int (a4.symm.trans bc1)
  obtain rfl := arrinj (ra.symm.trans x4)
  obtain rfl := arrinj (xa.symm.trans bx1)
  obtain rfl := arrinj (ya.symm.trans by1)
  have r9_ := cwx_ints hx (k := 9) (n := 16) (a := 0) (b := 9) rfl rfl ra
  have q9_ := cwx_ints hx (k := 10) (n := 16) (a := 0) (b := 9) rfl rfl x2
  have p9_ := cwx_ints hx (k := 6) (n := 16) (a := 0) (b := 1) rfl rfl pa
  have hsb := SB.of (h := h9.toInt) (fp := pq) (fh := hq) (fr := rq) (fx := xq) (fy := yq) (t := tq) (pq := xs (i + 1).toNatClampNeg) rc9.1.2 p9_ q9_ r9_ bx2 by2 t5
  rw [List.append_assoc]
  refine cx_callG (rm := { frames := 5, cells := 0, slots := 0, locals := 129 }) (m0 := C_t_X10_settle_0.2.2.2.2.1) (Ψ := (fun r w1 => ∃ (v9 : Int32) (q9 : Nat → Int32), r = some (.int v9) ∧ SetE h9.toInt pq rq xq yq (tX tq (xs (i + 1).toNatClampNeg)) (tY tq (xs (i + 1).toNatClampNeg)) (xs (i + 1).toNatClampNeg).toInt hq v9 q9 ∧ CQ G w1 10 16 q9)) (rest := []) (As := [.int (xs (i + 1).toNatClampNeg)]) X k_L_164 (fun ad w0 hW hag => ac_sex l G hW ((fget_eq (hag 5 0 (by decide))).trans a2) ((hag 6 0 (by decide)).trans pa) ((hag 7 0 (by decide)).trans xa) ((hag 8 0 (by decide)).trans ya) ((hag 9 0 (by decide)).trans ra) ((hag 10 0 (by decide)).trans x2) ((hag 105 0 (by decide)).trans t1) hsb) ⟨rfl, rfl⟩ (by decide) (fun r w1 wc hl h => (h.elim fun v9 h => h.elim fun q9 h => ⟨v9, q9, h.1, h.2.1, h.2.2.app (by omega)⟩)) hx d_lw_1462 ⟨by decide, by decide⟩ ⟨hc, hs⟩ rfl rfl (by decide) rfl (fun r wx' hz hx' hl' hfx => ?_)
  rw [← List.append_assoc]
  obtain ⟨v, rfl⟩ := (hz.elim fun v9 h => h.elim fun q9 h => ⟨v9, h.1⟩ : ∃ v : Int32, r = some (Value.int v))
  refine z_pop X d_lw_1465 rfl ?_
  refine z_aload_n X d_lw_1466 rfl 2 rfl ?_
  refine z_aload_n X d_lw_1467 rfl 0 rfl ?_
  refine z_iload X d_lw_1468 4 rfl ?_
  refine z_iconst X d_lw_1470 (v := 1) (by decide) ?_
  refine z_iadd X d_lw_1471 ?_
  refine z_sld X hX hbl hbA (lw_in hi0 hi1 (k := 1) (by decide) (by decide)) d_lw_1472 (v := xs (i + 1).toNatClampNeg) rfl ?_
  refine mx_callG (rm := { frames := 3, cells := 0, slots := 0, locals := 69 }) (m0 := C_settle.2.2.2.2.1) (Ψ := (fun r w1 => ∃ (v9 : Int32) (q9 : Nat → Int32), r = some (.int v9) ∧ SetE h9.toInt pg rg xg yg (tX9 (xs (i + 1).toNatClampNeg).toNatClampNeg) (tY9 (xs (i + 1).toNatClampNeg).toNatClampNeg) (xs (i + 1).toNatClampNeg).toInt hg v9 q9 ∧ CQ G w1 6 16 q9)) (wa := wx') (rest := []) (As := [.int (xs (i + 1).toNatClampNeg)]) X k_L_167 (fun ad hW => ac_sem l G hW b2 pb xb yb rb x3 t2 t3) ⟨rfl, rfl⟩ hy d_lw_1473 ⟨by decide, by decide⟩ ⟨hc, hs⟩ rfl rfl (Nat.le_of_ble_eq_true rfl) rfl (fun r wm' hz2 hy' hfm => ?_)
  obtain ⟨v2, rfl⟩ := (hz2.elim fun v9 h => h.elim fun q9 h => ⟨v9, h.1⟩ : ∃ v : Int32, r = some (Value.int v))
  obtain ⟨ev0, hM'⟩ := RelH.settle (pq := xs (i + 1).toNatClampNeg) hfx (by decide) a2 ra rc9.1.2 pe re xe ye x5 x6 x7 r9_ q9_ t4 hz hz2
  have hR' : RelQ G wx' wm' := RelQ.of (hR.m.keep hfx hfm (by decide)) (hR.a.keep hfx hfm (by decide)) (hR.d.keep hfx hfm (by decide)) (hR.c.keep hfx hfm (by decide)) (hR.x.keep hfx hfm (by decide)) (hR.b.keep hfx hfm (by decide)) (hM') (hR.t.keep hfx hfm (by decide)) (hR.k.keep hfx hfm (by decide))
  have ev : v.toInt = v2.toInt := congrArg Int32.toInt ev0
  refine z_pop X d_lw_1476 rfl ?_
  refine z_goto X d_lw_1477 (tgt := 2192) (by decide) ?_
  exact hK wx' wm' hx' hl' hy' hR'
theorem lc_33 (X : ZC p s m #[Value.ref b] meth c code 8 RL G (fun q : Nat => s.heap.size ≤ q) ret nm) (hX : va_X b L xs s s.heap) (hbl : b < s.heap.size) (hbA : ¬ s.heap.size ≤ b) (hi0 : 0 ≤ i.toInt) (hi1 : i.toInt + 10 ≤ (L : Int) ∧ L ≤ 5120) (hx : CWx G x wx) (hy : MWx G y wm) (hR : RelQ G wx wm) (hc : kc ≤ room_1.cells) (hs : ks ≤ room_1.slots) (hK : ∀ wx' wm', CWx G x wx' → wx'.length = wx.length → MWx G y wm' → RelQ G wx' wm' → Z p l e room_1 s m #[Value.ref b] below meth c 8 G (fun q : Nat => s.heap.size ≤ q) (lw_Z below #[Value.ref b] s) 2192 (lv5 b x y o i) [] (wx' ++ wm' ++ [(o, aJ G 1 f)]) kc ks) : Z p l e room_1 s m #[Value.ref b] below meth c 8 G (fun q : Nat => s.heap.size ≤ q) (lw_Z below #[Value.ref b] s) 1480 (lv5 b x y o i) [] (wx ++ wm ++ [(o, aJ G 1 f)]) kc ks := by
  refine z_aload_n X d_lw_1480 rfl 1 rfl ?_
  refine z_aload_n X d_lw_1481 rfl 0 rfl ?_
  refine z_iload X d_lw_1482 4 rfl ?_
  refine z_iconst X d_lw_1484 (v := 1) (by decide) ?_
  refine z_iadd X d_lw_1485 ?_
  refine z_sld X hX hbl hbA (lw_in hi0 hi1 (k := 1) (by decide) (by decide)) d_lw_1486 (v := xs (i + 1).toNatClampNeg) rfl ?_
  refine z_aload_n X d_lw_1487 rfl 0 rfl ?_
  refine z_iload X d_lw_1488 4 rfl ?_
  refine z_iconst X d_lw_1490 (v := 2) (by decide) ?_
  refine z_iadd X d_lw_1491 ?_
  refine z_sld X hX hbl hbA (lw_in hi0 hi1 (k := 2) (by decide) (by decide)) d_lw_1492 (v := xs (i + 2).toNatClampNeg) rfl ?_
  refine z_aload_n X d_lw_1493 rfl 0 rfl ?_
  refine z_iload X d_lw_1494 4 rfl ?_
  refine z_iconst X d_lw_1496 (v := 3) (by decide) ?_
  refine z_iadd X d_lw_1497 ?_
  refine z_sld X hX hbl hbA (lw_in hi0 hi1 (k := 3) (by decide) (by decide)) d_lw_1498 (v := xs (i + 3).toNatClampNeg) rfl ?_
  refine z_aload_n X d_lw_1499 rfl 0 rfl ?_
  refine z_iload X d_lw_1500 4 rfl ?_
  refine z_iconst X d_lw_1502 (v := 4) (by decide) ?_
  refine z_iadd X d_lw_1503 ?_
  refine z_sld X hX hbl hbA (lw_in hi0 hi1 (k := 4) (by decide) (by decide)) d_lw_1504 (v := xs (i + 4).toNatClampNeg) rfl ?_
  refine z_aload_n X d_lw_1505 rfl 0 rfl ?_
  refine z_iload X d_lw_1506 4 rfl ?_
  refine z_iconst X d_lw_1508 (v := 5) (by decide) ?_
  refine z_iadd X d_lw_1509 ?_
  refine z_sld X hX hbl hbA (lw_in hi0 hi1 (k := 5) (by decide) (by decide)) d_lw_1510 (v := xs (i + 5).toNatClampNeg) rfl ?_
  rw [List.append_assoc]
  refine cx_callF (k := 0) (rest := []) (As := [.int (xs (i + 1).toNatClampNeg), .int (xs (i + 2).toNatClampNeg), .int (xs (i + 3).toNatClampNeg), .int (xs (i + 4).toNatClampNeg), .int (xs (i + 5).toNatClampNeg)]) (μ := (fun k => ((Value.ref x :: [.int (xs (i + 1).toNatClampNeg), .int (xs (i + 2).toNatClampNeg), .int (xs (i + 3).toNatClampNeg), .int (xs (i + 4).toNatClampNeg), .int (xs (i + 5).toNatClampNeg)])[k]?).getD .null)) X k_L_168 (ac_X10_both_0 l G) (by decide) (by decide) (by decide) hx (fun ad w0 he => pre_mu (C := C_X10_both_0) (ts := [tI0, tI0, tI0, tI0, tI0]) (As := [.int (xs (i + 1).toNatClampNeg), .int (xs (i + 2).toNatClampNeg), .int (xs (i + 3).toNatClampNeg), .int (xs (i + 4).toNatClampNeg), .int (xs (i + 5).toNatClampNeg)]) rfl rfl rfl rfl ⟨fun _ => vty_i0 _, fun _ => vty_i0 _, fun _ => vty_i0 _, fun _ => vty_i0 _, fun _ => vty_i0 _, trivial⟩ ad w0 he) rfl d_lw_1511 ⟨by decide, by decide⟩ ⟨hc, hs⟩ rfl rfl (by decide) rfl (fun r wx' hr hx' hl' hfx => ?_)
  rw [← List.append_assoc]
  rcases hr with ⟨h, -⟩ | ⟨-, v, rfl⟩ | ⟨h, -⟩
  all_goals first | (exact absurd h (by decide)) | skip
  refine z_pop X d_lw_1514 rfl ?_
  refine z_aload_n X d_lw_1515 rfl 2 rfl ?_
  refine z_aload_n X d_lw_1516 rfl 0 rfl ?_
  refine z_iload X d_lw_1517 4 rfl ?_
  refine z_iconst X d_lw_1519 (v := 1) (by decide) ?_
  refine z_iadd X d_lw_1520 ?_
  refine z_sld X hX hbl hbA (lw_in hi0 hi1 (k := 1) (by decide) (by decide)) d_lw_1521 (v := xs (i + 1).toNatClampNeg) rfl ?_
  refine z_aload_n X d_lw_1522 rfl 0 rfl ?_
  refine z_iload X d_lw_1523 4 rfl ?_
  refine z_iconst X d_lw_1525 (v := 2) (by decide) ?_
  refine z_iadd X d_lw_1526 ?_
  refine z_sld X hX hbl hbA (lw_in hi0 hi1 (k := 2) (by decide) (by decide)) d_lw_1527 (v := xs (i + 2).toNatClampNeg) rfl ?_
  refine z_aload_n X d_lw_1528 rfl 0 rfl ?_
  refine z_iload X d_lw_1529 4 rfl ?_
  refine z_iconst X d_lw_1531 (v := 3) (by decide) ?_
  refine z_iadd X d_lw_1532 ?_
  refine z_sld X hX hbl hbA (lw_in hi0 hi1 (k := 3) (by decide) (by decide)) d_lw_1533 (v := xs (i + 3).toNatClampNeg) rfl ?_
  refine z_aload_n X d_lw_1534 rfl 0 rfl ?_
  refine z_iload X d_lw_1535 4 rfl ?_
  refine z_iconst X d_lw_1537 (v := 4) (by decide) ?_
  refine z_iadd X d_lw_1538 ?_
  refine z_sld X hX hbl hbA (lw_in hi0 hi1 (k := 4) (by decide) (by decide)) d_lw_1539 (v := xs (i + 4).toNatClampNeg) rfl ?_
  refine z_aload_n X d_lw_1540 rfl 0 rfl ?_
  refine z_iload X d_lw_1541 4 rfl ?_
  refine z_iconst X d_lw_1543 (v := 5) (by decide) ?_
  refine z_iadd X d_lw_1544 ?_
  refine z_sld X hX hbl hbA (lw_in hi0 hi1 (k := 5) (by decide) (by decide)) d_lw_1545 (v := xs (i + 5).toNatClampNeg) rfl ?_
  refine mx_callF (k := 0) (wa := wx') (rest := []) (As := [.int (xs (i + 1).toNatClampNeg), .int (xs (i + 2).toNatClampNeg), .int (xs (i + 3).toNatClampNeg), .int (xs (i + 4).toNatClampNeg), .int (xs (i + 5).toNatClampNeg)]) (μ := (fun k => ((Value.ref y :: [.int (xs (i + 1).toNatClampNeg), .int (xs (i + 2).toNatClampNeg), .int (xs (i + 3).toNatClampNeg), .int (xs (i + 4).toNatClampNeg), .int (xs (i + 5).toNatClampNeg)])[k]?).getD .null)) X k_L_172 (ac_X11_both_0 l G) (by decide) (by decide) hy (fun ad w0 he => pre_mu (C := C_X11_both_0) (ts := [tI0, tI0, tI0, tI0, tI0]) (As := [.int (xs (i + 1).toNatClampNeg), .int (xs (i + 2).toNatClampNeg), .int (xs (i + 3).toNatClampNeg), .int (xs (i + 4).toNatClampNeg), .int (xs (i + 5).toNatClampNeg)]) rfl rfl rfl rfl ⟨fun _ => vty_i0 _, fun _ => vty_i0 _, fun _ => vty_i0 _, fun _ => vty_i0 _, fun _ => vty_i0 _, trivial⟩ ad w0 he) rfl d_lw_1546 ⟨by decide, by decide⟩ ⟨hc, hs⟩ rfl rfl (Nat.le_of_ble_eq_true rfl) rfl (fun r wm' hr hy' hfm => ?_)
  rcases hr with ⟨h, -⟩ | ⟨-, v, rfl⟩ | ⟨h, -⟩
  all_goals first | (exact absurd h (by decide)) | skip
  refine z_pop X d_lw_1549 rfl ?_
  refine z_goto X d_lw_1550 (tgt := 2192) (by decide) ?_
  exact hK wx' wm' hx' hl' hy' (RelQ.of (hR.m.keep hfx hfm (by decide)) (hR.a.keep hfx hfm (by decide)) (hR.d.keep hfx hfm (by decide)) (hR.c.keep hfx hfm (by decide)) (hR.x.keep hfx hfm (by decide)) (hR.b.keep hfx hfm (by decide)) (hR.h.keep hfx hfm (by decide)) (hR.t.keep hfx hfm (by decide)) (hR.k.keep hfx hfm (by decide)))
end LWC
