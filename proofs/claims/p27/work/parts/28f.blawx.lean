/-! the law: its cases, the relation kept -/
section LWC
variable {p : Program} {l : Launch} {e : Env} {s : State} {m : MethodId} {below : List Frame} {meth : Method} {c : Code} {G : KG} {nm : String} {b L x y o : Nat} {xs : Nat → Int32} {i : Int32} {f : Nat → Int64} {wx wm : va_W} {kc ks : Nat}
theorem lc_17 (X : ZC p s m #[Value.ref b] meth c code 8 RL G (fun q : Nat => s.heap.size ≤ q) ret nm) (hX : va_X b L xs s s.heap) (hbl : b < s.heap.size) (hbA : ¬ s.heap.size ≤ b) (hi0 : 0 ≤ i.toInt) (hi1 : i.toInt + 10 ≤ (L : Int) ∧ L ≤ 5120) (hx : CWx G x wx) (hy : MWx G y wm) (hR : RelQ G wx wm) (hc : kc ≤ room_1.cells) (hs : ks ≤ room_1.slots) (hK : ∀ wx' wm', CWx G x wx' → wx'.length = wx.length → MWx G y wm' → RelQ G wx' wm' → Z p l e room_1 s m #[Value.ref b] below meth c 8 G (fun q : Nat => s.heap.size ≤ q) (lw_Z below #[Value.ref b] s) 2193 (lv5 b x y o i) [] (wx' ++ wm' ++ [(o, aJ G 1 f)]) kc ks) : Z p l e room_1 s m #[Value.ref b] below meth c 8 G (fun q : Nat => s.heap.size ≤ q) (lw_Z below #[Value.ref b] s) 880 (lv5 b x y o i) [] (wx ++ wm ++ [(o, aJ G 1 f)]) kc ks := by
  refine z_aload_n X d_lw_880 rfl 1 rfl ?_
  rw [List.append_assoc]
  refine cx_callF (k := 0) (rest := []) (As := []) (μ := (fun k => ((Value.ref x :: [])[k]?).getD .null)) X k_L_100 (ac_X10_ends_0 l G) (by decide) (by decide) (by decide) hx (fun ad w0 he => pre_mu (C := C_X10_ends_0) (ts := []) (As := []) rfl rfl rfl rfl trivial ad w0 he) rfl d_lw_881 ⟨by decide, by decide⟩ ⟨hc, hs⟩ rfl rfl (by decide) rfl (fun r wx' hr hx' hl' hfx => ?_)
  rw [← List.append_assoc]
  rcases hr with ⟨h, -⟩ | ⟨-, v, rfl⟩ | ⟨h, -⟩
  all_goals first | (exact absurd h (by decide)) | skip
  refine z_pop X d_lw_884 rfl ?_
  refine z_aload_n X d_lw_885 rfl 2 rfl ?_
  refine mx_callF (k := 0) (wa := wx') (rest := []) (As := []) (μ := (fun k => ((Value.ref y :: [])[k]?).getD .null)) X k_L_103 (ac_X11_ends_0 l G) (by decide) (by decide) hy (fun ad w0 he => pre_mu (C := C_X11_ends_0) (ts := []) (As := []) rfl rfl rfl rfl trivial ad w0 he) rfl d_lw_886 ⟨by decide, by decide⟩ ⟨hc, hs⟩ rfl rfl (Nat.le_of_ble_eq_true rfl) rfl (fun r wm' hr hy' hfm => ?_)
  rcases hr with ⟨h, -⟩ | ⟨-, v, rfl⟩ | ⟨h, -⟩
  all_goals first | (exact absurd h (by decide)) | skip
  refine z_pop X d_lw_889 rfl ?_
  refine z_goto X d_lw_890 (tgt := 2193) (by decide) ?_
  exact hK wx' wm' hx' hl' hy' (RelQ.of (hR.m.keep hfx hfm (by decide)) (hR.a.keep hfx hfm (by decide)) (hR.d.keep hfx hfm (by decide)) (hR.c.keep hfx hfm (by decide)) (hR.x.keep hfx hfm (by decide)) (hR.b.keep hfx hfm (by decide)) (hR.h.keep hfx hfm (by decide)) (hR.t.keep hfx hfm (by decide)) (hR.k.keep hfx hfm (by decide)))
theorem lc_18 (X : ZC p s m #[Value.ref b] meth c code 8 RL G (fun q : Nat => s.heap.size ≤ q) ret nm) (hX : va_X b L xs s s.heap) (hbl : b < s.heap.size) (hbA : ¬ s.heap.size ≤ b) (hi0 : 0 ≤ i.toInt) (hi1 : i.toInt + 10 ≤ (L : Int) ∧ L ≤ 5120) (hx : CWx G x wx) (hy : MWx G y wm) (hR : RelQ G wx wm) (hc : kc ≤ room_1.cells) (hs : ks ≤ room_1.slots) (hK : ∀ wx' wm', CWx G x wx' → wx'.length = wx.length → MWx G y wm' → RelQ G wx' wm' → Z p l e room_1 s m #[Value.ref b] below meth c 8 G (fun q : Nat => s.heap.size ≤ q) (lw_Z below #[Value.ref b] s) 2193 (lv5 b x y o i) [] (wx' ++ wm' ++ [(o, aJ G 1 f)]) kc ks) : Z p l e room_1 s m #[Value.ref b] below meth c 8 G (fun q : Nat => s.heap.size ≤ q) (lw_Z below #[Value.ref b] s) 893 (lv5 b x y o i) [] (wx ++ wm ++ [(o, aJ G 1 f)]) kc ks := by
  refine z_aload_n X d_lw_893 rfl 1 rfl ?_
  refine z_aload_n X d_lw_894 rfl 0 rfl ?_
  refine z_iload X d_lw_895 4 rfl ?_
  refine z_iconst X d_lw_897 (v := 1) (by decide) ?_
  refine z_iadd X d_lw_898 ?_
  refine z_sld X hX hbl hbA (lw_in hi0 hi1 (k := 1) (by decide) (by decide)) d_lw_899 (v := xs (i + 1).toNatClampNeg) rfl ?_
  refine z_aload_n X d_lw_900 rfl 0 rfl ?_
  refine z_iload X d_lw_901 4 rfl ?_
  refine z_iconst X d_lw_903 (v := 2) (by decide) ?_
  refine z_iadd X d_lw_904 ?_
  refine z_sld X hX hbl hbA (lw_in hi0 hi1 (k := 2) (by decide) (by decide)) d_lw_905 (v := xs (i + 2).toNatClampNeg) rfl ?_
  rw [List.append_assoc]
  refine cx_callF (k := 0) (rest := []) (As := [.int (xs (i + 1).toNatClampNeg), .int (xs (i + 2).toNatClampNeg)]) (μ := (fun k => ((Value.ref x :: [.int (xs (i + 1).toNatClampNeg), .int (xs (i + 2).toNatClampNeg)])[k]?).getD .null)) X k_L_104 (ac_X10_judge_0 l G) (by decide) (by decide) (by decide) hx (fun ad w0 he => pre_mu (C := C_X10_judge_0) (ts := [tI0, tI0]) (As := [.int (xs (i + 1).toNatClampNeg), .int (xs (i + 2).toNatClampNeg)]) rfl rfl rfl rfl ⟨fun _ => vty_i0 _, fun _ => vty_i0 _, trivial⟩ ad w0 he) rfl d_lw_906 ⟨by decide, by decide⟩ ⟨hc, hs⟩ rfl rfl (by decide) rfl (fun r wx' hr hx' hl' hfx => ?_)
  rw [← List.append_assoc]
  rcases hr with ⟨h, -⟩ | ⟨-, v, rfl⟩ | ⟨h, -⟩
  all_goals first | (exact absurd h (by decide)) | skip
  refine z_pop X d_lw_909 rfl ?_
  refine z_aload_n X d_lw_910 rfl 2 rfl ?_
  refine z_aload_n X d_lw_911 rfl 0 rfl ?_
  refine z_iload X d_lw_912 4 rfl ?_
  refine z_iconst X d_lw_914 (v := 1) (by decide) ?_
  refine z_iadd X d_lw_915 ?_
  refine z_sld X hX hbl hbA (lw_in hi0 hi1 (k := 1) (by decide) (by decide)) d_lw_916 (v := xs (i + 1).toNatClampNeg) rfl ?_
  refine z_aload_n X d_lw_917 rfl 0 rfl ?_
  refine z_iload X d_lw_918 4 rfl ?_
  refine z_iconst X d_lw_920 (v := 2) (by decide) ?_
  refine z_iadd X d_lw_921 ?_
  refine z_sld X hX hbl hbA (lw_in hi0 hi1 (k := 2) (by decide) (by decide)) d_lw_922 (v := xs (i + 2).toNatClampNeg) rfl ?_
  refine mx_callF (k := 0) (wa := wx') (rest := []) (As := [.int (xs (i + 1).toNatClampNeg), .int (xs (i + 2).toNatClampNeg)]) (μ := (fun k => ((Value.ref y :: [.int (xs (i + 1).toNatClampNeg), .int (xs (i + 2).toNatClampNeg)])[k]?).getD .null)) X k_L_107 (ac_X11_judge_0 l G) (by decide) (by decide) hy (fun ad w0 he => pre_mu (C := C_X11_judge_0) (ts := [tI0, tI0]) (As := [.int (xs (i + 1).toNatClampNeg), .int (xs (i + 2).toNatClampNeg)]) rfl rfl rfl rfl ⟨fun _ => vty_i0 _, fun _ => vty_i0 _, trivial⟩ ad w0 he) rfl d_lw_923 ⟨by decide, by decide⟩ ⟨hc, hs⟩ rfl rfl (Nat.le_of_ble_eq_true rfl) rfl (fun r wm' hr hy' hfm => ?_)
  rcases hr with ⟨h, -⟩ | ⟨-, v, rfl⟩ | ⟨h, -⟩
  all_goals first | (exact absurd h (by decide)) | skip
  refine z_pop X d_lw_926 rfl ?_
  refine z_goto X d_lw_927 (tgt := 2193) (by decide) ?_
  exact hK wx' wm' hx' hl' hy' (RelQ.of (hR.m.keep hfx hfm (by decide)) (hR.a.keep hfx hfm (by decide)) (hR.d.keep hfx hfm (by decide)) (hR.c.keep hfx hfm (by decide)) (hR.x.keep hfx hfm (by decide)) (hR.b.keep hfx hfm (by decide)) (hR.h.keep hfx hfm (by decide)) (hR.t.keep hfx hfm (by decide)) (hR.k.keep hfx hfm (by decide)))
theorem lc_19 (X : ZC p s m #[Value.ref b] meth c code 8 RL G (fun q : Nat => s.heap.size ≤ q) ret nm) (hX : va_X b L xs s s.heap) (hbl : b < s.heap.size) (hbA : ¬ s.heap.size ≤ b) (hi0 : 0 ≤ i.toInt) (hi1 : i.toInt + 10 ≤ (L : Int) ∧ L ≤ 5120) (hx : CWx G x wx) (hy : MWx G y wm) (hR : RelQ G wx wm) (hc : kc ≤ room_1.cells) (hs : ks ≤ room_1.slots) (hK : ∀ wx' wm', CWx G x wx' → wx'.length = wx.length → MWx G y wm' → RelQ G wx' wm' → Z p l e room_1 s m #[Value.ref b] below meth c 8 G (fun q : Nat => s.heap.size ≤ q) (lw_Z below #[Value.ref b] s) 2193 (lv5 b x y o i) [] (wx' ++ wm' ++ [(o, aJ G 1 f)]) kc ks) : Z p l e room_1 s m #[Value.ref b] below meth c 8 G (fun q : Nat => s.heap.size ≤ q) (lw_Z below #[Value.ref b] s) 930 (lv5 b x y o i) [] (wx ++ wm ++ [(o, aJ G 1 f)]) kc ks := by
  refine z_aload_n X d_lw_930 rfl 1 rfl ?_
  rw [List.append_assoc]
  refine cx_callF (k := 0) (rest := []) (As := []) (μ := (fun k => ((Value.ref x :: [])[k]?).getD .null)) X k_L_108 (ac_X10_bars_0 l G) (by decide) (by decide) (by decide) hx (fun ad w0 he => pre_mu (C := C_X10_bars_0) (ts := []) (As := []) rfl rfl rfl rfl trivial ad w0 he) rfl d_lw_931 ⟨by decide, by decide⟩ ⟨hc, hs⟩ rfl rfl (by decide) rfl (fun r wx' hr hx' hl' hfx => ?_)
  rw [← List.append_assoc]
  rcases hr with ⟨h, -⟩ | ⟨-, v, rfl⟩ | ⟨h, -⟩
  all_goals first | (exact absurd h (by decide)) | skip
  refine z_pop X d_lw_934 rfl ?_
  refine z_aload_n X d_lw_935 rfl 2 rfl ?_
  refine mx_callF (k := 0) (wa := wx') (rest := []) (As := []) (μ := (fun k => ((Value.ref y :: [])[k]?).getD .null)) X k_L_111 (ac_X11_bars_0 l G) (by decide) (by decide) hy (fun ad w0 he => pre_mu (C := C_X11_bars_0) (ts := []) (As := []) rfl rfl rfl rfl trivial ad w0 he) rfl d_lw_936 ⟨by decide, by decide⟩ ⟨hc, hs⟩ rfl rfl (Nat.le_of_ble_eq_true rfl) rfl (fun r wm' hr hy' hfm => ?_)
  rcases hr with ⟨h, -⟩ | ⟨-, v, rfl⟩ | ⟨h, -⟩
  all_goals first | (exact absurd h (by decide)) | skip
  refine z_pop X d_lw_939 rfl ?_
  refine z_goto X d_lw_940 (tgt := 2193) (by decide) ?_
  exact hK wx' wm' hx' hl' hy' (RelQ.of (hR.m.keep hfx hfm (by decide)) (hR.a.keep hfx hfm (by decide)) (hR.d.keep hfx hfm (by decide)) (hR.c.keep hfx hfm (by decide)) (hR.x.keep hfx hfm (by decide)) (hR.b.keep hfx hfm (by decide)) (hR.h.keep hfx hfm (by decide)) (hR.t.keep hfx hfm (by decide)) (hR.k.keep hfx hfm (by decide)))
theorem lc_20 (X : ZC p s m #[Value.ref b] meth c code 8 RL G (fun q : Nat => s.heap.size ≤ q) ret nm) (hX : va_X b L xs s s.heap) (hbl : b < s.heap.size) (hbA : ¬ s.heap.size ≤ b) (hi0 : 0 ≤ i.toInt) (hi1 : i.toInt + 10 ≤ (L : Int) ∧ L ≤ 5120) (hx : CWx G x wx) (hy : MWx G y wm) (hR : RelQ G wx wm) (hbud : wx.length = 109 → kc + 7 ≤ room_1.cells ∧ ks + 80434 ≤ room_1.slots) (hc : kc ≤ room_1.cells) (hs : ks ≤ room_1.slots) (hK : ∀ (k n : Nat) (wx' wm' : va_W), CWx G x wx' → ((k = 0 ∧ n = 0 ∧ wx'.length = wx.length) ∨ (k = 7 ∧ n = 80434 ∧ wx.length = 109 ∧ wx'.length = 116)) → MWx G y wm' → RelQ G wx' wm' → Z p l e room_1 s m #[Value.ref b] below meth c 8 G (fun q : Nat => s.heap.size ≤ q) (lw_Z below #[Value.ref b] s) 2193 (lv5 b x y o i) [] (wx' ++ wm' ++ [(o, aJ G 1 f)]) (kc + k) (ks + n)) : Z p l e room_1 s m #[Value.ref b] below meth c 8 G (fun q : Nat => s.heap.size ≤ q) (lw_Z below #[Value.ref b] s) 943 (lv5 b x y o i) [] (wx ++ wm ++ [(o, aJ G 1 f)]) kc ks := by
  refine z_aload_n X d_lw_943 rfl 1 rfl ?_
  refine z_aload_n X d_lw_944 rfl 0 rfl ?_
  refine z_iload X d_lw_945 4 rfl ?_
  refine z_iconst X d_lw_947 (v := 1) (by decide) ?_
  refine z_iadd X d_lw_948 ?_
  refine z_sld X hX hbl hbA (lw_in hi0 hi1 (k := 1) (by decide) (by decide)) d_lw_949 (v := xs (i + 1).toNatClampNeg) rfl ?_
  refine z_aload_n X d_lw_950 rfl 0 rfl ?_
  refine z_iload X d_lw_951 4 rfl ?_
  refine z_iconst X d_lw_953 (v := 2) (by decide) ?_
  refine z_iadd X d_lw_954 ?_
  refine z_sld X hX hbl hbA (lw_in hi0 hi1 (k := 2) (by decide) (by decide)) d_lw_955 (v := xs (i + 2).toNatClampNeg) rfl ?_
  rw [List.append_assoc]
  refine cx_growV (rN := rm_nx 7 80434) (rR := rm_nx 0 0) (rest := []) (As := [.int (xs (i + 1).toNatClampNeg), .int (xs (i + 2).toNatClampNeg)]) X k_L_112 (fun ad w0 h1 h2 h3 => ac_nxV l G (xs (i + 1).toNatClampNeg) (xs (i + 2).toNatClampNeg) h1 h2 h3) (fun ad w0 h1 h2 h3 => ac_nxR l G (xs (i + 1).toNatClampNeg) (xs (i + 2).toNatClampNeg) h1 h2 h3) hx d_lw_956 ⟨by decide, by decide⟩ ⟨by decide, by decide⟩ hbud ⟨hc, hs⟩ ⟨rfl, rfl⟩ rfl rfl (by decide) rfl (fun k n v wx' hx' hfx hcost => ?_)
  rw [← List.append_assoc]
  have hcs : kc + k ≤ room_1.cells ∧ ks + n ≤ room_1.slots := by
    rcases hcost with ⟨rfl, rfl, -⟩ | ⟨rfl, rfl, h, -⟩
    · exact ⟨hc, hs⟩
    · exact hbud h
  refine z_pop X d_lw_959 rfl ?_
  refine z_aload_n X d_lw_960 rfl 2 rfl ?_
  refine z_aload_n X d_lw_961 rfl 0 rfl ?_
  refine z_iload X d_lw_962 4 rfl ?_
  refine z_iconst X d_lw_964 (v := 1) (by decide) ?_
  refine z_iadd X d_lw_965 ?_
  refine z_sld X hX hbl hbA (lw_in hi0 hi1 (k := 1) (by decide) (by decide)) d_lw_966 (v := xs (i + 1).toNatClampNeg) rfl ?_
  refine z_aload_n X d_lw_967 rfl 0 rfl ?_
  refine z_iload X d_lw_968 4 rfl ?_
  refine z_iconst X d_lw_970 (v := 2) (by decide) ?_
  refine z_iadd X d_lw_971 ?_
  refine z_sld X hX hbl hbA (lw_in hi0 hi1 (k := 2) (by decide) (by decide)) d_lw_972 (v := xs (i + 2).toNatClampNeg) rfl ?_
  refine mx_callF (k := 0) (wa := wx') (rest := []) (As := [.int (xs (i + 1).toNatClampNeg), .int (xs (i + 2).toNatClampNeg)]) (μ := (fun k => ((Value.ref y :: [.int (xs (i + 1).toNatClampNeg), .int (xs (i + 2).toNatClampNeg)])[k]?).getD .null)) X k_L_115 (ac_X11_next_0 l G) (by decide) (by decide) hy (fun ad w0 he => pre_mu (C := C_X11_next_0) (ts := [tI0, tI0]) (As := [.int (xs (i + 1).toNatClampNeg), .int (xs (i + 2).toNatClampNeg)]) rfl rfl rfl rfl ⟨fun _ => vty_i0 _, fun _ => vty_i0 _, trivial⟩ ad w0 he) rfl d_lw_973 ⟨by decide, by decide⟩ hcs rfl rfl (Nat.le_of_ble_eq_true rfl) rfl (fun r wm' hr hy' hfm => ?_)
  rcases hr with ⟨h, -⟩ | ⟨-, v2, rfl⟩ | ⟨h, -⟩
  all_goals first | (exact absurd h (by decide)) | skip
  refine z_pop X d_lw_976 rfl ?_
  refine z_goto X d_lw_977 (tgt := 2193) (by decide) ?_
  exact hK k n wx' wm' hx' hcost hy' (RelQ.of (hR.m.keep hfx hfm (by decide)) (hR.a.keep hfx hfm (by decide)) (hR.d.keep hfx hfm (by decide)) (hR.c.keep hfx hfm (by decide)) (hR.x.keep hfx hfm (by decide)) (hR.b.keep hfx hfm (by decide)) (hR.h.keep hfx hfm (by decide)) (hR.t.keep hfx hfm (by decide)) (hR.k.keep hfx hfm (by decide)))
theorem lc_21 (X : ZC p s m #[Value.ref b] meth c code 8 RL G (fun q : Nat => s.heap.size ≤ q) ret nm) (hX : va_X b L xs s s.heap) (hbl : b < s.heap.size) (hbA : ¬ s.heap.size ≤ b) (hi0 : 0 ≤ i.toInt) (hi1 : i.toInt + 10 ≤ (L : Int) ∧ L ≤ 5120) (hx : CWx G x wx) (hy : MWx G y wm) (hR : RelQ G wx wm) (hbud : wx.length = 109 → kc + 7 ≤ room_1.cells ∧ ks + 80434 ≤ room_1.slots) (hc : kc ≤ room_1.cells) (hs : ks ≤ room_1.slots) (hK : ∀ (k n : Nat) (wx' wm' : va_W), CWx G x wx' → ((k = 0 ∧ n = 0 ∧ wx'.length = wx.length) ∨ (k = 7 ∧ n = 80434 ∧ wx.length = 109 ∧ wx'.length = 116)) → MWx G y wm' → RelQ G wx' wm' → Z p l e room_1 s m #[Value.ref b] below meth c 8 G (fun q : Nat => s.heap.size ≤ q) (lw_Z below #[Value.ref b] s) 2193 (lv5 b x y o i) [] (wx' ++ wm' ++ [(o, aJ G 1 f)]) (kc + k) (ks + n)) : Z p l e room_1 s m #[Value.ref b] below meth c 8 G (fun q : Nat => s.heap.size ≤ q) (lw_Z below #[Value.ref b] s) 980 (lv5 b x y o i) [] (wx ++ wm ++ [(o, aJ G 1 f)]) kc ks := by
  refine z_aload_n X d_lw_980 rfl 1 rfl ?_
  refine z_aload_n X d_lw_981 rfl 0 rfl ?_
  refine z_iload X d_lw_982 4 rfl ?_
  refine z_iconst X d_lw_984 (v := 1) (by decide) ?_
  refine z_iadd X d_lw_985 ?_
  refine z_sld X hX hbl hbA (lw_in hi0 hi1 (k := 1) (by decide) (by decide)) d_lw_986 (v := xs (i + 1).toNatClampNeg) rfl ?_
  refine z_aload_n X d_lw_987 rfl 0 rfl ?_
  refine z_iload X d_lw_988 4 rfl ?_
  refine z_iconst X d_lw_990 (v := 2) (by decide) ?_
  refine z_iadd X d_lw_991 ?_
  refine z_sld X hX hbl hbA (lw_in hi0 hi1 (k := 2) (by decide) (by decide)) d_lw_992 (v := xs (i + 2).toNatClampNeg) rfl ?_
  refine z_aload_n X d_lw_993 rfl 0 rfl ?_
  refine z_iload X d_lw_994 4 rfl ?_
  refine z_iconst X d_lw_996 (v := 3) (by decide) ?_
  refine z_iadd X d_lw_997 ?_
  refine z_sld X hX hbl hbA (lw_in hi0 hi1 (k := 3) (by decide) (by decide)) d_lw_998 (v := xs (i + 3).toNatClampNeg) rfl ?_
  rw [List.append_assoc]
  refine cx_growV (rN := rm_en 7 80434) (rR := rm_en 0 0) (rest := []) (As := [.int (xs (i + 1).toNatClampNeg), .int (xs (i + 2).toNatClampNeg), .int (xs (i + 3).toNatClampNeg)]) X k_L_116 (fun ad w0 h1 h2 h3 => ac_enV l G (xs (i + 1).toNatClampNeg) (xs (i + 2).toNatClampNeg) (xs (i + 3).toNatClampNeg) h1 h2 h3) (fun ad w0 h1 h2 h3 => ac_enR l G (xs (i + 1).toNatClampNeg) (xs (i + 2).toNatClampNeg) (xs (i + 3).toNatClampNeg) h1 h2 h3) hx d_lw_999 ⟨by decide, by decide⟩ ⟨by decide, by decide⟩ hbud ⟨hc, hs⟩ ⟨rfl, rfl⟩ rfl rfl (by decide) rfl (fun k n v wx' hx' hfx hcost => ?_)
  rw [← List.append_assoc]
  have hcs : kc + k ≤ room_1.cells ∧ ks + n ≤ room_1.slots := by
    rcases hcost with ⟨rfl, rfl, -⟩ | ⟨rfl, rfl, h, -⟩
    · exact ⟨hc, hs⟩
    · exact hbud h
  refine z_pop X d_lw_1002 rfl ?_
  refine z_aload_n X d_lw_1003 rfl 2 rfl ?_
  refine z_aload_n X d_lw_1004 rfl 0 rfl ?_
  refine z_iload X d_lw_1005 4 rfl ?_
  refine z_iconst X d_lw_1007 (v := 1) (by decide) ?_
  refine z_iadd X d_lw_1008 ?_
  refine z_sld X hX hbl hbA (lw_in hi0 hi1 (k := 1) (by decide) (by decide)) d_lw_1009 (v := xs (i + 1).toNatClampNeg) rfl ?_
  refine z_aload_n X d_lw_1010 rfl 0 rfl ?_
  refine z_iload X d_lw_1011 4 rfl ?_
  refine z_iconst X d_lw_1013 (v := 2) (by decide) ?_
  refine z_iadd X d_lw_1014 ?_
  refine z_sld X hX hbl hbA (lw_in hi0 hi1 (k := 2) (by decide) (by decide)) d_lw_1015 (v := xs (i + 2).toNatClampNeg) rfl ?_
  refine z_aload_n X d_lw_1016 rfl 0 rfl ?_
  refine z_iload X d_lw_1017 4 rfl ?_
  refine z_iconst X d_lw_1019 (v := 3) (by decide) ?_
  refine z_iadd X d_lw_1020 ?_
  refine z_sld X hX hbl hbA (lw_in hi0 hi1 (k := 3) (by decide) (by decide)) d_lw_1021 (v := xs (i + 3).toNatClampNeg) rfl ?_
  refine mx_callF (k := 0) (wa := wx') (rest := []) (As := [.int (xs (i + 1).toNatClampNeg), .int (xs (i + 2).toNatClampNeg), .int (xs (i + 3).toNatClampNeg)]) (μ := (fun k => ((Value.ref y :: [.int (xs (i + 1).toNatClampNeg), .int (xs (i + 2).toNatClampNeg), .int (xs (i + 3).toNatClampNeg)])[k]?).getD .null)) X k_L_119 (ac_X11_enough_0 l G) (by decide) (by decide) hy (fun ad w0 he => pre_mu (C := C_X11_enough_0) (ts := [tI0, tI0, tI0]) (As := [.int (xs (i + 1).toNatClampNeg), .int (xs (i + 2).toNatClampNeg), .int (xs (i + 3).toNatClampNeg)]) rfl rfl rfl rfl ⟨fun _ => vty_i0 _, fun _ => vty_i0 _, fun _ => vty_i0 _, trivial⟩ ad w0 he) rfl d_lw_1022 ⟨by decide, by decide⟩ hcs rfl rfl (Nat.le_of_ble_eq_true rfl) rfl (fun r wm' hr hy' hfm => ?_)
  rcases hr with ⟨h, -⟩ | ⟨-, v2, rfl⟩ | ⟨h, -⟩
  all_goals first | (exact absurd h (by decide)) | skip
  refine z_pop X d_lw_1025 rfl ?_
  refine z_goto X d_lw_1026 (tgt := 2193) (by decide) ?_
  exact hK k n wx' wm' hx' hcost hy' (RelQ.of (hR.m.keep hfx hfm (by decide)) (hR.a.keep hfx hfm (by decide)) (hR.d.keep hfx hfm (by decide)) (hR.c.keep hfx hfm (by decide)) (hR.x.keep hfx hfm (by decide)) (hR.b.keep hfx hfm (by decide)) (hR.h.keep hfx hfm (by decide)) (hR.t.keep hfx hfm (by decide)) (hR.k.keep hfx hfm (by decide)))
theorem lc_22 (X : ZC p s m #[Value.ref b] meth c code 8 RL G (fun q : Nat => s.heap.size ≤ q) ret nm) (hX : va_X b L xs s s.heap) (hbl : b < s.heap.size) (hbA : ¬ s.heap.size ≤ b) (hi0 : 0 ≤ i.toInt) (hi1 : i.toInt + 10 ≤ (L : Int) ∧ L ≤ 5120) (hx : CWx G x wx) (hy : MWx G y wm) (hR : RelQ G wx wm) (hc : kc ≤ room_1.cells) (hs : ks ≤ room_1.slots) (hK : ∀ wx' wm', CWx G x wx' → wx'.length = wx.length → MWx G y wm' → RelQ G wx' wm' → Z p l e room_1 s m #[Value.ref b] below meth c 8 G (fun q : Nat => s.heap.size ≤ q) (lw_Z below #[Value.ref b] s) 2193 (lv5 b x y o i) [] (wx' ++ wm' ++ [(o, aJ G 1 f)]) kc ks) : Z p l e room_1 s m #[Value.ref b] below meth c 8 G (fun q : Nat => s.heap.size ≤ q) (lw_Z below #[Value.ref b] s) 1029 (lv5 b x y o i) [] (wx ++ wm ++ [(o, aJ G 1 f)]) kc ks := by
  refine z_aload_n X d_lw_1029 rfl 1 rfl ?_
  refine z_aload_n X d_lw_1030 rfl 0 rfl ?_
  refine z_iload X d_lw_1031 4 rfl ?_
  refine z_iconst X d_lw_1033 (v := 1) (by decide) ?_
  refine z_iadd X d_lw_1034 ?_
  refine z_sld X hX hbl hbA (lw_in hi0 hi1 (k := 1) (by decide) (by decide)) d_lw_1035 (v := xs (i + 1).toNatClampNeg) rfl ?_
  refine z_aload_n X d_lw_1036 rfl 0 rfl ?_
  refine z_iload X d_lw_1037 4 rfl ?_
  refine z_iconst X d_lw_1039 (v := 2) (by decide) ?_
  refine z_iadd X d_lw_1040 ?_
  refine z_sld X hX hbl hbA (lw_in hi0 hi1 (k := 2) (by decide) (by decide)) d_lw_1041 (v := xs (i + 2).toNatClampNeg) rfl ?_
  refine z_aload_n X d_lw_1042 rfl 0 rfl ?_
  refine z_iload X d_lw_1043 4 rfl ?_
  refine z_iconst X d_lw_1045 (v := 3) (by decide) ?_
  refine z_iadd X d_lw_1046 ?_
  refine z_sld X hX hbl hbA (lw_in hi0 hi1 (k := 3) (by decide) (by decide)) d_lw_1047 (v := xs (i + 3).toNatClampNeg) rfl ?_
  rw [List.append_assoc]
  refine cx_callF (k := 0) (rest := []) (As := [.int (xs (i + 1).toNatClampNeg), .int (xs (i + 2).toNatClampNeg), .int (xs (i + 3).toNatClampNeg)]) (μ := (fun k => ((Value.ref x :: [.int (xs (i + 1).toNatClampNeg), .int (xs (i + 2).toNatClampNeg), .int (xs (i + 3).toNatClampNeg)])[k]?).getD .null)) X k_L_120 (ac_X10_man_0 l G) (by decide) (by decide) (by decide) hx (fun ad w0 he => pre_mu (C := C_X10_man_0) (ts := [tI0, tI0, tI0]) (As := [.int (xs (i + 1).toNatClampNeg), .int (xs (i + 2).toNatClampNeg), .int (xs (i + 3).toNatClampNeg)]) rfl rfl rfl rfl ⟨fun _ => vty_i0 _, fun _ => vty_i0 _, fun _ => vty_i0 _, trivial⟩ ad w0 he) rfl d_lw_1048 ⟨by decide, by decide⟩ ⟨hc, hs⟩ rfl rfl (by decide) rfl (fun r wx' hr hx' hl' hfx => ?_)
  rw [← List.append_assoc]
  rcases hr with ⟨h, -⟩ | ⟨-, v, rfl⟩ | ⟨h, -⟩
  all_goals first | (exact absurd h (by decide)) | skip
  refine z_pop X d_lw_1051 rfl ?_
  refine z_aload_n X d_lw_1052 rfl 2 rfl ?_
  refine z_aload_n X d_lw_1053 rfl 0 rfl ?_
  refine z_iload X d_lw_1054 4 rfl ?_
  refine z_iconst X d_lw_1056 (v := 1) (by decide) ?_
  refine z_iadd X d_lw_1057 ?_
  refine z_sld X hX hbl hbA (lw_in hi0 hi1 (k := 1) (by decide) (by decide)) d_lw_1058 (v := xs (i + 1).toNatClampNeg) rfl ?_
  refine z_aload_n X d_lw_1059 rfl 0 rfl ?_
  refine z_iload X d_lw_1060 4 rfl ?_
  refine z_iconst X d_lw_1062 (v := 2) (by decide) ?_
  refine z_iadd X d_lw_1063 ?_
  refine z_sld X hX hbl hbA (lw_in hi0 hi1 (k := 2) (by decide) (by decide)) d_lw_1064 (v := xs (i + 2).toNatClampNeg) rfl ?_
  refine z_aload_n X d_lw_1065 rfl 0 rfl ?_
  refine z_iload X d_lw_1066 4 rfl ?_
  refine z_iconst X d_lw_1068 (v := 3) (by decide) ?_
  refine z_iadd X d_lw_1069 ?_
  refine z_sld X hX hbl hbA (lw_in hi0 hi1 (k := 3) (by decide) (by decide)) d_lw_1070 (v := xs (i + 3).toNatClampNeg) rfl ?_
  refine mx_callF (k := 0) (wa := wx') (rest := []) (As := [.int (xs (i + 1).toNatClampNeg), .int (xs (i + 2).toNatClampNeg), .int (xs (i + 3).toNatClampNeg)]) (μ := (fun k => ((Value.ref y :: [.int (xs (i + 1).toNatClampNeg), .int (xs (i + 2).toNatClampNeg), .int (xs (i + 3).toNatClampNeg)])[k]?).getD .null)) X k_L_123 (ac_X11_man_0 l G) (by decide) (by decide) hy (fun ad w0 he => pre_mu (C := C_X11_man_0) (ts := [tI0, tI0, tI0]) (As := [.int (xs (i + 1).toNatClampNeg), .int (xs (i + 2).toNatClampNeg), .int (xs (i + 3).toNatClampNeg)]) rfl rfl rfl rfl ⟨fun _ => vty_i0 _, fun _ => vty_i0 _, fun _ => vty_i0 _, trivial⟩ ad w0 he) rfl d_lw_1071 ⟨by decide, by decide⟩ ⟨hc, hs⟩ rfl rfl (Nat.le_of_ble_eq_true rfl) rfl (fun r wm' hr hy' hfm => ?_)
  rcases hr with ⟨h, -⟩ | ⟨-, v, rfl⟩ | ⟨h, -⟩
  all_goals first | (exact absurd h (by decide)) | skip
  refine z_pop X d_lw_1074 rfl ?_
  refine z_goto X d_lw_1075 (tgt := 2193) (by decide) ?_
  exact hK wx' wm' hx' hl' hy' (RelQ.of (hR.m.keep hfx hfm (by decide)) (hR.a.keep hfx hfm (by decide)) (hR.d.keep hfx hfm (by decide)) (hR.c.keep hfx hfm (by decide)) (hR.x.keep hfx hfm (by decide)) (hR.b.keep hfx hfm (by decide)) (hR.h.keep hfx hfm (by decide)) (hR.t.keep hfx hfm (by decide)) (hR.k.keep hfx hfm (by decide)))
theorem lc_23 (X : ZC p s m #[Value.ref b] meth c code 8 RL G (fun q : Nat => s.heap.size ≤ q) ret nm) (hX : va_X b L xs s s.heap) (hbl : b < s.heap.size) (hbA : ¬ s.heap.size ≤ b) (hi0 : 0 ≤ i.toInt) (hi1 : i.toInt + 10 ≤ (L : Int) ∧ L ≤ 5120) (hx : CWx G x wx) (hy : MWx G y wm) (hR : RelQ G wx wm) (hc : kc ≤ room_1.cells) (hs : ks ≤ room_1.slots) (hK : ∀ wx' wm', CWx G x wx' → wx'.length = wx.length → MWx G y wm' → RelQ G wx' wm' → Z p l e room_1 s m #[Value.ref b] below meth c 8 G (fun q : Nat => s.heap.size ≤ q) (lw_Z below #[Value.ref b] s) 2193 (lv5 b x y o i) [] (wx' ++ wm' ++ [(o, aJ G 1 f)]) kc ks) : Z p l e room_1 s m #[Value.ref b] below meth c 8 G (fun q : Nat => s.heap.size ≤ q) (lw_Z below #[Value.ref b] s) 1078 (lv5 b x y o i) [] (wx ++ wm ++ [(o, aJ G 1 f)]) kc ks := by
  refine z_aload_n X d_lw_1078 rfl 1 rfl ?_
  refine z_aload_n X d_lw_1079 rfl 0 rfl ?_
  refine z_iload X d_lw_1080 4 rfl ?_
  refine z_iconst X d_lw_1082 (v := 1) (by decide) ?_
  refine z_iadd X d_lw_1083 ?_
  refine z_sld X hX hbl hbA (lw_in hi0 hi1 (k := 1) (by decide) (by decide)) d_lw_1084 (v := xs (i + 1).toNatClampNeg) rfl ?_
  refine z_aload_n X d_lw_1085 rfl 0 rfl ?_
  refine z_iload X d_lw_1086 4 rfl ?_
  refine z_iconst X d_lw_1088 (v := 2) (by decide) ?_
  refine z_iadd X d_lw_1089 ?_
  refine z_sld X hX hbl hbA (lw_in hi0 hi1 (k := 2) (by decide) (by decide)) d_lw_1090 (v := xs (i + 2).toNatClampNeg) rfl ?_
  rw [List.append_assoc]
  refine cx_callF (k := 0) (rest := []) (As := [.int (xs (i + 1).toNatClampNeg), .int (xs (i + 2).toNatClampNeg)]) (μ := (fun k => ((Value.ref x :: [.int (xs (i + 1).toNatClampNeg), .int (xs (i + 2).toNatClampNeg)])[k]?).getD .null)) X k_L_124 (ac_X10_tells_0 l G) (by decide) (by decide) (by decide) hx (fun ad w0 he => pre_mu (C := C_X10_tells_0) (ts := [tI0, tI0]) (As := [.int (xs (i + 1).toNatClampNeg), .int (xs (i + 2).toNatClampNeg)]) rfl rfl rfl rfl ⟨fun _ => vty_i0 _, fun _ => vty_i0 _, trivial⟩ ad w0 he) rfl d_lw_1091 ⟨by decide, by decide⟩ ⟨hc, hs⟩ rfl rfl (by decide) rfl (fun r wx' hr hx' hl' hfx => ?_)
  rw [← List.append_assoc]
  rcases hr with ⟨h, -⟩ | ⟨-, v, rfl⟩ | ⟨h, -⟩
  all_goals first | (exact absurd h (by decide)) | skip
  refine z_pop X d_lw_1094 rfl ?_
  refine z_aload_n X d_lw_1095 rfl 2 rfl ?_
  refine z_aload_n X d_lw_1096 rfl 0 rfl ?_
  refine z_iload X d_lw_1097 4 rfl ?_
  refine z_iconst X d_lw_1099 (v := 1) (by decide) ?_
  refine z_iadd X d_lw_1100 ?_
  refine z_sld X hX hbl hbA (lw_in hi0 hi1 (k := 1) (by decide) (by decide)) d_lw_1101 (v := xs (i + 1).toNatClampNeg) rfl ?_
  refine z_aload_n X d_lw_1102 rfl 0 rfl ?_
  refine z_iload X d_lw_1103 4 rfl ?_
  refine z_iconst X d_lw_1105 (v := 2) (by decide) ?_
  refine z_iadd X d_lw_1106 ?_
  refine z_sld X hX hbl hbA (lw_in hi0 hi1 (k := 2) (by decide) (by decide)) d_lw_1107 (v := xs (i + 2).toNatClampNeg) rfl ?_
  refine mx_callF (k := 0) (wa := wx') (rest := []) (As := [.int (xs (i + 1).toNatClampNeg), .int (xs (i + 2).toNatClampNeg)]) (μ := (fun k => ((Value.ref y :: [.int (xs (i + 1).toNatClampNeg), .int (xs (i + 2).toNatClampNeg)])[k]?).getD .null)) X k_L_127 (ac_X11_tells_0 l G) (by decide) (by decide) hy (fun ad w0 he => pre_mu (C := C_X11_tells_0) (ts := [tI0, tI0]) (As := [.int (xs (i + 1).toNatClampNeg), .int (xs (i + 2).toNatClampNeg)]) rfl rfl rfl rfl ⟨fun _ => vty_i0 _, fun _ => vty_i0 _, trivial⟩ ad w0 he) rfl d_lw_1108 ⟨by decide, by decide⟩ ⟨hc, hs⟩ rfl rfl (Nat.le_of_ble_eq_true rfl) rfl (fun r wm' hr hy' hfm => ?_)
  rcases hr with ⟨h, -⟩ | ⟨-, v, rfl⟩ | ⟨h, -⟩
  all_goals first | (exact absurd h (by decide)) | skip
  refine z_pop X d_lw_1111 rfl ?_
  refine z_goto X d_lw_1112 (tgt := 2193) (by decide) ?_
  exact hK wx' wm' hx' hl' hy' (RelQ.of (hR.m.keep hfx hfm (by decide)) (hR.a.keep hfx hfm (by decide)) (hR.d.keep hfx hfm (by decide)) (hR.c.keep hfx hfm (by decide)) (hR.x.keep hfx hfm (by decide)) (hR.b.keep hfx hfm (by decide)) (hR.h.keep hfx hfm (by decide)) (hR.t.keep hfx hfm (by decide)) (hR.k.keep hfx hfm (by decide)))
theorem lc_24 (X : ZC p s m #[Value.ref b] meth c code 8 RL G (fun q : Nat => s.heap.size ≤ q) ret nm) (hX : va_X b L xs s s.heap) (hbl : b < s.heap.size) (hbA : ¬ s.heap.size ≤ b) (hi0 : 0 ≤ i.toInt) (hi1 : i.toInt + 10 ≤ (L : Int) ∧ L ≤ 5120) (hx : CWx G x wx) (hy : MWx G y wm) (hR : RelQ G wx wm) (hc : kc ≤ room_1.cells) (hs : ks ≤ room_1.slots) (hK : ∀ wx' wm', CWx G x wx' → wx'.length = wx.length → MWx G y wm' → RelQ G wx' wm' → Z p l e room_1 s m #[Value.ref b] below meth c 8 G (fun q : Nat => s.heap.size ≤ q) (lw_Z below #[Value.ref b] s) 2193 (lv5 b x y o i) [] (wx' ++ wm' ++ [(o, aJ G 1 f)]) kc ks) : Z p l e room_1 s m #[Value.ref b] below meth c 8 G (fun q : Nat => s.heap.size ≤ q) (lw_Z below #[Value.ref b] s) 1115 (lv5 b x y o i) [] (wx ++ wm ++ [(o, aJ G 1 f)]) kc ks := by
  refine z_aload_n X d_lw_1115 rfl 1 rfl ?_
  refine z_aload_n X d_lw_1116 rfl 0 rfl ?_
  refine z_iload X d_lw_1117 4 rfl ?_
  refine z_iconst X d_lw_1119 (v := 1) (by decide) ?_
  refine z_iadd X d_lw_1120 ?_
  refine z_sld X hX hbl hbA (lw_in hi0 hi1 (k := 1) (by decide) (by decide)) d_lw_1121 (v := xs (i + 1).toNatClampNeg) rfl ?_
  refine z_aload_n X d_lw_1122 rfl 0 rfl ?_
  refine z_iload X d_lw_1123 4 rfl ?_
  refine z_iconst X d_lw_1125 (v := 2) (by decide) ?_
  refine z_iadd X d_lw_1126 ?_
  refine z_sld X hX hbl hbA (lw_in hi0 hi1 (k := 2) (by decide) (by decide)) d_lw_1127 (v := xs (i + 2).toNatClampNeg) rfl ?_
  refine z_aload_n X d_lw_1128 rfl 0 rfl ?_
  refine z_iload X d_lw_1129 4 rfl ?_
  refine z_iconst X d_lw_1131 (v := 3) (by decide) ?_
  refine z_iadd X d_lw_1132 ?_
  refine z_sld X hX hbl hbA (lw_in hi0 hi1 (k := 3) (by decide) (by decide)) d_lw_1133 (v := xs (i + 3).toNatClampNeg) rfl ?_
  refine z_aload_n X d_lw_1134 rfl 0 rfl ?_
  refine z_iload X d_lw_1135 4 rfl ?_
  refine z_iconst X d_lw_1137 (v := 4) (by decide) ?_
  refine z_iadd X d_lw_1138 ?_
  refine z_sld X hX hbl hbA (lw_in hi0 hi1 (k := 4) (by decide) (by decide)) d_lw_1139 (v := xs (i + 4).toNatClampNeg) rfl ?_
  rw [List.append_assoc]
  refine cx_callF (k := 0) (rest := []) (As := [.int (xs (i + 1).toNatClampNeg), .int (xs (i + 2).toNatClampNeg), .int (xs (i + 3).toNatClampNeg), .int (xs (i + 4).toNatClampNeg)]) (μ := (fun k => ((Value.ref x :: [.int (xs (i + 1).toNatClampNeg), .int (xs (i + 2).toNatClampNeg), .int (xs (i + 3).toNatClampNeg), .int (xs (i + 4).toNatClampNeg)])[k]?).getD .null)) X k_L_128 (ac_X10_men_0 l G) (by decide) (by decide) (by decide) hx (fun ad w0 he => pre_mu (C := C_X10_men_0) (ts := [tI0, tI0, tI0, tI0]) (As := [.int (xs (i + 1).toNatClampNeg), .int (xs (i + 2).toNatClampNeg), .int (xs (i + 3).toNatClampNeg), .int (xs (i + 4).toNatClampNeg)]) rfl rfl rfl rfl ⟨fun _ => vty_i0 _, fun _ => vty_i0 _, fun _ => vty_i0 _, fun _ => vty_i0 _, trivial⟩ ad w0 he) rfl d_lw_1140 ⟨by decide, by decide⟩ ⟨hc, hs⟩ rfl rfl (by decide) rfl (fun r wx' hr hx' hl' hfx => ?_)
  rw [← List.append_assoc]
  rcases hr with ⟨h, -⟩ | ⟨-, v, rfl⟩ | ⟨h, -⟩
  all_goals first | (exact absurd h (by decide)) | skip
  refine z_pop X d_lw_1143 rfl ?_
  refine z_aload_n X d_lw_1144 rfl 2 rfl ?_
  refine z_aload_n X d_lw_1145 rfl 0 rfl ?_
  refine z_iload X d_lw_1146 4 rfl ?_
  refine z_iconst X d_lw_1148 (v := 1) (by decide) ?_
  refine z_iadd X d_lw_1149 ?_
  refine z_sld X hX hbl hbA (lw_in hi0 hi1 (k := 1) (by decide) (by decide)) d_lw_1150 (v := xs (i + 1).toNatClampNeg) rfl ?_
  refine z_aload_n X d_lw_1151 rfl 0 rfl ?_
  refine z_iload X d_lw_1152 4 rfl ?_
  refine z_iconst X d_lw_1154 (v := 2) (by decide) ?_
  refine z_iadd X d_lw_1155 ?_
  refine z_sld X hX hbl hbA (lw_in hi0 hi1 (k := 2) (by decide) (by decide)) d_lw_1156 (v := xs (i + 2).toNatClampNeg) rfl ?_
  refine z_aload_n X d_lw_1157 rfl 0 rfl ?_
  refine z_iload X d_lw_1158 4 rfl ?_
  refine z_iconst X d_lw_1160 (v := 3) (by decide) ?_
  refine z_iadd X d_lw_1161 ?_
  refine z_sld X hX hbl hbA (lw_in hi0 hi1 (k := 3) (by decide) (by decide)) d_lw_1162 (v := xs (i + 3).toNatClampNeg) rfl ?_
  refine z_aload_n X d_lw_1163 rfl 0 rfl ?_
  refine z_iload X d_lw_1164 4 rfl ?_
  refine z_iconst X d_lw_1166 (v := 4) (by decide) ?_
  refine z_iadd X d_lw_1167 ?_
  refine z_sld X hX hbl hbA (lw_in hi0 hi1 (k := 4) (by decide) (by decide)) d_lw_1168 (v := xs (i + 4).toNatClampNeg) rfl ?_
  refine mx_callF (k := 0) (wa := wx') (rest := []) (As := [.int (xs (i + 1).toNatClampNeg), .int (xs (i + 2).toNatClampNeg), .int (xs (i + 3).toNatClampNeg), .int (xs (i + 4).toNatClampNeg)]) (μ := (fun k => ((Value.ref y :: [.int (xs (i + 1).toNatClampNeg), .int (xs (i + 2).toNatClampNeg), .int (xs (i + 3).toNatClampNeg), .int (xs (i + 4).toNatClampNeg)])[k]?).getD .null)) X k_L_131 (ac_X11_men_0 l G) (by decide) (by decide) hy (fun ad w0 he => pre_mu (C := C_X11_men_0) (ts := [tI0, tI0, tI0, tI0]) (As := [.int (xs (i + 1).toNatClampNeg), .int (xs (i + 2).toNatClampNeg), .int (xs (i + 3).toNatClampNeg), .int (xs (i + 4).toNatClampNeg)]) rfl rfl rfl rfl ⟨fun _ => vty_i0 _, fun _ => vty_i0 _, fun _ => vty_i0 _, fun _ => vty_i0 _, trivial⟩ ad w0 he) rfl d_lw_1169 ⟨by decide, by decide⟩ ⟨hc, hs⟩ rfl rfl (Nat.le_of_ble_eq_true rfl) rfl (fun r wm' hr hy' hfm => ?_)
  rcases hr with ⟨h, -⟩ | ⟨-, v, rfl⟩ | ⟨h, -⟩
  all_goals first | (exact absurd h (by decide)) | skip
  refine z_pop X d_lw_1172 rfl ?_
  refine z_goto X d_lw_1173 (tgt := 2193) (by decide) ?_
  exact hK wx' wm' hx' hl' hy' (RelQ.of (hR.m.keep hfx hfm (by decide)) (hR.a.keep hfx hfm (by decide)) (hR.d.keep hfx hfm (by decide)) (hR.c.keep hfx hfm (by decide)) (hR.x.keep hfx hfm (by decide)) (hR.b.keep hfx hfm (by decide)) (hR.h.keep hfx hfm (by decide)) (hR.t.keep hfx hfm (by decide)) (hR.k.keep hfx hfm (by decide)))
theorem lc_25 (X : ZC p s m #[Value.ref b] meth c code 8 RL G (fun q : Nat => s.heap.size ≤ q) ret nm) (hX : va_X b L xs s s.heap) (hbl : b < s.heap.size) (hbA : ¬ s.heap.size ≤ b) (hi0 : 0 ≤ i.toInt) (hi1 : i.toInt + 10 ≤ (L : Int) ∧ L ≤ 5120) (hx : CWx G x wx) (hy : MWx G y wm) (hR : RelQ G wx wm) (hc : kc ≤ room_1.cells) (hs : ks ≤ room_1.slots) (hK : ∀ wx' wm', CWx G x wx' → wx'.length = wx.length → MWx G y wm' → RelQ G wx' wm' → Z p l e room_1 s m #[Value.ref b] below meth c 8 G (fun q : Nat => s.heap.size ≤ q) (lw_Z below #[Value.ref b] s) 2193 (lv5 b x y o i) [] (wx' ++ wm' ++ [(o, aJ G 1 f)]) kc ks) : Z p l e room_1 s m #[Value.ref b] below meth c 8 G (fun q : Nat => s.heap.size ≤ q) (lw_Z below #[Value.ref b] s) 1176 (lv5 b x y o i) [] (wx ++ wm ++ [(o, aJ G 1 f)]) kc ks := by
  obtain ⟨n, h9, s9, c9, f9, g9, ⟨n0, n1⟩, rc9, e9, ⟨hn1, hn2⟩, ⟨a2, b2⟩, ⟨a3, b3⟩, ⟨a4, b4⟩, a5, b5⟩ := id hR.m
  refine z_aload_n X d_lw_1176 rfl 1 rfl ?_
  refine z_aload_n X d_lw_1177 rfl 0 rfl ?_
  refine z_iload X d_lw_1178 4 rfl ?_
  refine z_iconst X d_lw_1180 (v := 1) (by decide) ?_
  refine z_iadd X d_lw_1181 ?_
  refine z_sld X hX hbl hbA (lw_in hi0 hi1 (k := 1) (by decide) (by decide)) d_lw_1182 (v := xs (i + 1).toNatClampNeg) rfl ?_
  obtain ⟨hh9, hq, hg, hr, x1, x2, x3, x4, x5, x6, x7⟩ := id hR.h
  obtain rfl := some_int (a2.symm.trans x1)
  obtain ⟨ha0, sa0, ca0, ⟨eh1, es1, ec1⟩, ⟨pq, pg, pa, pb, pe⟩, ⟨rq, rg, ra, rb, re⟩, ⟨fq, fg, fa, fb, fe⟩, ⟨oq, og, oa, ob1, oe⟩, ⟨wq, wg, wa1, wb1, we⟩⟩ := id hR.a
  obtain rfl := some_int (a2.symm.trans eh1)
  obtain rfl := some_int (a3.symm.trans es1)
  obtain rfl := some_int (a4.symm.trans ec1)
  obtain ⟨tq, tX9, tY9, t1, t2, t3, t4, t5⟩ := id hR.t
  obtain ⟨hd1, eh3, ⟨xq, xg, xa, xb, xe⟩, ⟨yq, yg, ya, yb, ye⟩⟩ := id hR.x
  obtain rfl := some_int (a2.symm.trans eh3)
  obtain ⟨hb9, sb9, cb9, ⟨bh1, bs1, bc1⟩, ⟨bx, bx1, bx2⟩, ⟨by_, by1, by2⟩, ⟨bf, bf1, bf2⟩, ⟨bo, bo1, bo2⟩, ⟨bw, bw1, bw2⟩⟩ := id hR.b
  obtain rfl := some_int (a2.symm.trans bh1)
  obtain rfl := some_int (a3.symm.trans bs1)
  obtain rfl := some_int (a4.symm.trans bc1)
  obtain rfl := arrinj (ra.symm.trans x4)
  obtain rfl := arrinj (xa.symm.trans bx1)
  obtain rfl := arrinj (ya.symm.trans by1)
  have r9_ := cwx_ints hx (k := 9) (n := 16) (a := 0) (b := 9) rfl rfl ra
  have q9_ := cwx_ints hx (k := 10) (n := 16) (a := 0) (b := 9) rfl rfl x2
  have p9_ := cwx_ints hx (k := 6) (n := 16) (a := 0) (b := 1) rfl rfl pa
  rw [List.append_assoc]
  refine cx_callG (rm := { frames := 2, cells := 0, slots := 0, locals := 47 }) (m0 := C_X10_rest_0.2.2.2.2.1) (Ψ := (fun r _ => r = some (.long (mRest (tX tq (xs (i + 1).toNatClampNeg)) (tY tq (xs (i + 1).toNatClampNeg)) pq hq xq yq h9.toInt (xs (i + 1).toNatClampNeg).toInt)))) (rest := []) (As := [.int (xs (i + 1).toNatClampNeg)]) X k_L_132 (fun ad w0 hW hag => ac_rex l G hW ((fget_eq (hag 5 0 (by decide))).trans a2) ((hag 6 0 (by decide)).trans pa) ((hag 7 0 (by decide)).trans xa) ((hag 8 0 (by decide)).trans ya) ((hag 10 0 (by decide)).trans x2) ((hag 105 0 (by decide)).trans t1)) ⟨rfl, rfl⟩ (by decide) (fun r w1 wc hl h => h) hx d_lw_1183 ⟨by decide, by decide⟩ ⟨hc, hs⟩ rfl rfl (by decide) rfl (fun r wx' hz hx' hl' hfx => ?_)
  rw [← List.append_assoc]
  obtain ⟨v, rfl⟩ := (⟨_, hz⟩ : ∃ v : Int64, r = some (Value.long v))
  refine z_aload_n X d_lw_1186 rfl 2 rfl ?_
  refine z_aload_n X d_lw_1187 rfl 0 rfl ?_
  refine z_iload X d_lw_1188 4 rfl ?_
  refine z_iconst X d_lw_1190 (v := 1) (by decide) ?_
  refine z_iadd X d_lw_1191 ?_
  refine z_sld X hX hbl hbA (lw_in hi0 hi1 (k := 1) (by decide) (by decide)) d_lw_1192 (v := xs (i + 1).toNatClampNeg) rfl ?_
  refine mx_callG (rm := { frames := 2, cells := 0, slots := 0, locals := 45 }) (m0 := C_X11_rest_0.2.2.2.2.1) (Ψ := (fun r _ => r = some (.long (mRest (tX9 (xs (i + 1).toNatClampNeg).toNatClampNeg) (tY9 (xs (i + 1).toNatClampNeg).toNatClampNeg) pg hg xg yg h9.toInt (xs (i + 1).toNatClampNeg).toInt)))) (wa := wx') (rest := [.long v]) (As := [.int (xs (i + 1).toNatClampNeg)]) X k_L_135 (fun ad hW => ac_rem l G hW b2 pb xb yb x3 t2 t3) ⟨rfl, rfl⟩ hy d_lw_1193 ⟨by decide, by decide⟩ ⟨hc, hs⟩ rfl rfl (Nat.le_of_ble_eq_true rfl) rfl (fun r wm' hz2 hy' hfm => ?_)
  obtain ⟨v2, rfl⟩ := (⟨_, hz2⟩ : ∃ v : Int64, r = some (Value.long v))
  obtain ⟨ev0, hM'⟩ := (⟨(some_long hz).trans ((rest_same (fun j hj => pe j (by omega) hj) (fun j hj => xe j (by omega) hj) (fun j hj => ye j (by omega) hj) (fun j hj => x5 j (by omega) hj) (fun hp => tXY t4 hp)).trans (some_long hz2).symm), RelQ.of (hR.m.keep hfx hfm (by decide)) (hR.a.keep hfx hfm (by decide)) (hR.d.keep hfx hfm (by decide)) (hR.c.keep hfx hfm (by decide)) (hR.x.keep hfx hfm (by decide)) (hR.b.keep hfx hfm (by decide)) (hR.h.keep hfx hfm (by decide)) (hR.t.keep hfx hfm (by decide)) (hR.k.keep hfx hfm (by decide))⟩ : v = v2 ∧ RelQ G wx' wm')
  have hR' : RelQ G wx' wm' := hM'
  have ev : v.toInt = v2.toInt := congrArg Int64.toInt ev0
  refine zl_eq X d_lw_1196 d_lw_1197 (tgt := 2193) (by decide) (a := v.toInt) (b := v2.toInt) rfl rfl (fun _ => ?_) (fun h => absurd ev h)
  exact hK wx' wm' hx' hl' hy' hR'
theorem lc_26 (X : ZC p s m #[Value.ref b] meth c code 8 RL G (fun q : Nat => s.heap.size ≤ q) ret nm) (hX : va_X b L xs s s.heap) (hbl : b < s.heap.size) (hbA : ¬ s.heap.size ≤ b) (hi0 : 0 ≤ i.toInt) (hi1 : i.toInt + 10 ≤ (L : Int) ∧ L ≤ 5120) (hx : CWx G x wx) (hy : MWx G y wm) (hR : RelQ G wx wm) (hc : kc ≤ room_1.cells) (hs : ks ≤ room_1.slots) (hK : ∀ wx' wm', CWx G x wx' → wx'.length = wx.length → MWx G y wm' → RelQ G wx' wm' → Z p l e room_1 s m #[Value.ref b] below meth c 8 G (fun q : Nat => s.heap.size ≤ q) (lw_Z below #[Value.ref b] s) 2193 (lv5 b x y o i) [] (wx' ++ wm' ++ [(o, aJ G 1 f)]) kc ks) : Z p l e room_1 s m #[Value.ref b] below meth c 8 G (fun q : Nat => s.heap.size ≤ q) (lw_Z below #[Value.ref b] s) 1202 (lv5 b x y o i) [] (wx ++ wm ++ [(o, aJ G 1 f)]) kc ks := by
  refine z_aload_n X d_lw_1202 rfl 1 rfl ?_
  refine z_aload_n X d_lw_1203 rfl 0 rfl ?_
  refine z_iload X d_lw_1204 4 rfl ?_
  refine z_iconst X d_lw_1206 (v := 1) (by decide) ?_
  refine z_iadd X d_lw_1207 ?_
  refine z_sld X hX hbl hbA (lw_in hi0 hi1 (k := 1) (by decide) (by decide)) d_lw_1208 (v := xs (i + 1).toNatClampNeg) rfl ?_
  refine z_aload_n X d_lw_1209 rfl 0 rfl ?_
  refine z_iload X d_lw_1210 4 rfl ?_
  refine z_iconst X d_lw_1212 (v := 2) (by decide) ?_
  refine z_iadd X d_lw_1213 ?_
  refine z_sld X hX hbl hbA (lw_in hi0 hi1 (k := 2) (by decide) (by decide)) d_lw_1214 (v := xs (i + 2).toNatClampNeg) rfl ?_
  rw [List.append_assoc]
  refine cx_callF (k := 1) (rest := []) (As := [.int (xs (i + 1).toNatClampNeg), .int (xs (i + 2).toNatClampNeg)]) (μ := (fun k => ((Value.ref x :: [.int (xs (i + 1).toNatClampNeg), .int (xs (i + 2).toNatClampNeg)])[k]?).getD .null)) X k_L_136 (ac_t_X10_best_0 l G) (by decide) (by decide) (by decide) hx (fun ad w0 he => pre_mu (C := C_t_X10_best_0) (ts := [tI0, tI0]) (As := [.int (xs (i + 1).toNatClampNeg), .int (xs (i + 2).toNatClampNeg)]) rfl rfl rfl rfl ⟨fun _ => vty_i0 _, fun _ => vty_i0 _, trivial⟩ ad w0 he) rfl d_lw_1215 ⟨by decide, by decide⟩ ⟨hc, hs⟩ rfl rfl (by decide) rfl (fun r wx' hr hx' hl' hfx => ?_)
  rw [← List.append_assoc]
  rcases hr with ⟨h, -⟩ | ⟨h, -⟩ | ⟨-, v, rfl⟩
  all_goals first | (exact absurd h (by decide)) | skip
  refine z_pop2 X d_lw_1218 rfl ?_
  refine z_aload_n X d_lw_1219 rfl 2 rfl ?_
  refine z_aload_n X d_lw_1220 rfl 0 rfl ?_
  refine z_iload X d_lw_1221 4 rfl ?_
  refine z_iconst X d_lw_1223 (v := 1) (by decide) ?_
  refine z_iadd X d_lw_1224 ?_
  refine z_sld X hX hbl hbA (lw_in hi0 hi1 (k := 1) (by decide) (by decide)) d_lw_1225 (v := xs (i + 1).toNatClampNeg) rfl ?_
  refine z_aload_n X d_lw_1226 rfl 0 rfl ?_
  refine z_iload X d_lw_1227 4 rfl ?_
  refine z_iconst X d_lw_1229 (v := 2) (by decide) ?_
  refine z_iadd X d_lw_1230 ?_
  refine z_sld X hX hbl hbA (lw_in hi0 hi1 (k := 2) (by decide) (by decide)) d_lw_1231 (v := xs (i + 2).toNatClampNeg) rfl ?_
  refine mx_callF (k := 1) (wa := wx') (rest := []) (As := [.int (xs (i + 1).toNatClampNeg), .int (xs (i + 2).toNatClampNeg)]) (μ := (fun k => ((Value.ref y :: [.int (xs (i + 1).toNatClampNeg), .int (xs (i + 2).toNatClampNeg)])[k]?).getD .null)) X k_L_140 (ac_X11_best_0 l G) (by decide) (by decide) hy (fun ad w0 he => pre_mu (C := C_X11_best_0) (ts := [tI0, tI0]) (As := [.int (xs (i + 1).toNatClampNeg), .int (xs (i + 2).toNatClampNeg)]) rfl rfl rfl rfl ⟨fun _ => vty_i0 _, fun _ => vty_i0 _, trivial⟩ ad w0 he) rfl d_lw_1232 ⟨by decide, by decide⟩ ⟨hc, hs⟩ rfl rfl (Nat.le_of_ble_eq_true rfl) rfl (fun r wm' hr hy' hfm => ?_)
  rcases hr with ⟨h, -⟩ | ⟨h, -⟩ | ⟨-, v, rfl⟩
  all_goals first | (exact absurd h (by decide)) | skip
  refine z_pop2 X d_lw_1235 rfl ?_
  refine z_goto X d_lw_1236 (tgt := 2193) (by decide) ?_
  exact hK wx' wm' hx' hl' hy' (RelQ.of (hR.m.keep hfx hfm (by decide)) (hR.a.keep hfx hfm (by decide)) (hR.d.keep hfx hfm (by decide)) (hR.c.keep hfx hfm (by decide)) (hR.x.keep hfx hfm (by decide)) (hR.b.keep hfx hfm (by decide)) (hR.h.keep hfx hfm (by decide)) (hR.t.keep hfx hfm (by decide)) (hR.k.keep hfx hfm (by decide)))
theorem lc_27 (X : ZC p s m #[Value.ref b] meth c code 8 RL G (fun q : Nat => s.heap.size ≤ q) ret nm) (hX : va_X b L xs s s.heap) (hbl : b < s.heap.size) (hbA : ¬ s.heap.size ≤ b) (hi0 : 0 ≤ i.toInt) (hi1 : i.toInt + 10 ≤ (L : Int) ∧ L ≤ 5120) (hx : CWx G x wx) (hy : MWx G y wm) (hR : RelQ G wx wm) (hc : kc ≤ room_1.cells) (hs : ks ≤ room_1.slots) (hK : ∀ wx' wm', CWx G x wx' → wx'.length = wx.length → MWx G y wm' → RelQ G wx' wm' → Z p l e room_1 s m #[Value.ref b] below meth c 8 G (fun q : Nat => s.heap.size ≤ q) (lw_Z below #[Value.ref b] s) 2193 (lv5 b x y o i) [] (wx' ++ wm' ++ [(o, aJ G 1 f)]) kc ks) : Z p l e room_1 s m #[Value.ref b] below meth c 8 G (fun q : Nat => s.heap.size ≤ q) (lw_Z below #[Value.ref b] s) 1239 (lv5 b x y o i) [] (wx ++ wm ++ [(o, aJ G 1 f)]) kc ks := by
  refine z_aload_n X d_lw_1239 rfl 1 rfl ?_
  refine z_aload_n X d_lw_1240 rfl 0 rfl ?_
  refine z_iload X d_lw_1241 4 rfl ?_
  refine z_iconst X d_lw_1243 (v := 1) (by decide) ?_
  refine z_iadd X d_lw_1244 ?_
  refine z_sld X hX hbl hbA (lw_in hi0 hi1 (k := 1) (by decide) (by decide)) d_lw_1245 (v := xs (i + 1).toNatClampNeg) rfl ?_
  refine z_aload_n X d_lw_1246 rfl 0 rfl ?_
  refine z_iload X d_lw_1247 4 rfl ?_
  refine z_iconst X d_lw_1249 (v := 2) (by decide) ?_
  refine z_iadd X d_lw_1250 ?_
  refine z_sld X hX hbl hbA (lw_in hi0 hi1 (k := 2) (by decide) (by decide)) d_lw_1251 (v := xs (i + 2).toNatClampNeg) rfl ?_
  rw [List.append_assoc]
  refine cx_callF (k := 1) (rest := []) (As := [.int (xs (i + 1).toNatClampNeg), .int (xs (i + 2).toNatClampNeg)]) (μ := (fun k => ((Value.ref x :: [.int (xs (i + 1).toNatClampNeg), .int (xs (i + 2).toNatClampNeg)])[k]?).getD .null)) X k_L_141 (ac_t_X10_off_0 l G) (by decide) (by decide) (by decide) hx (fun ad w0 he => pre_mu (C := C_t_X10_off_0) (ts := [tI0, tI0]) (As := [.int (xs (i + 1).toNatClampNeg), .int (xs (i + 2).toNatClampNeg)]) rfl rfl rfl rfl ⟨fun _ => vty_i0 _, fun _ => vty_i0 _, trivial⟩ ad w0 he) rfl d_lw_1252 ⟨by decide, by decide⟩ ⟨hc, hs⟩ rfl rfl (by decide) rfl (fun r wx' hr hx' hl' hfx => ?_)
  rw [← List.append_assoc]
  rcases hr with ⟨h, -⟩ | ⟨h, -⟩ | ⟨-, v, rfl⟩
  all_goals first | (exact absurd h (by decide)) | skip
  refine z_pop2 X d_lw_1255 rfl ?_
  refine z_aload_n X d_lw_1256 rfl 2 rfl ?_
  refine z_aload_n X d_lw_1257 rfl 0 rfl ?_
  refine z_iload X d_lw_1258 4 rfl ?_
  refine z_iconst X d_lw_1260 (v := 1) (by decide) ?_
  refine z_iadd X d_lw_1261 ?_
  refine z_sld X hX hbl hbA (lw_in hi0 hi1 (k := 1) (by decide) (by decide)) d_lw_1262 (v := xs (i + 1).toNatClampNeg) rfl ?_
  refine z_aload_n X d_lw_1263 rfl 0 rfl ?_
  refine z_iload X d_lw_1264 4 rfl ?_
  refine z_iconst X d_lw_1266 (v := 2) (by decide) ?_
  refine z_iadd X d_lw_1267 ?_
  refine z_sld X hX hbl hbA (lw_in hi0 hi1 (k := 2) (by decide) (by decide)) d_lw_1268 (v := xs (i + 2).toNatClampNeg) rfl ?_
  refine mx_callF (k := 1) (wa := wx') (rest := []) (As := [.int (xs (i + 1).toNatClampNeg), .int (xs (i + 2).toNatClampNeg)]) (μ := (fun k => ((Value.ref y :: [.int (xs (i + 1).toNatClampNeg), .int (xs (i + 2).toNatClampNeg)])[k]?).getD .null)) X k_L_144 (ac_offq l G) (by decide) (by decide) hy (fun ad w0 he => pre_mu (C := C_offq) (ts := [tI0, tI0]) (As := [.int (xs (i + 1).toNatClampNeg), .int (xs (i + 2).toNatClampNeg)]) rfl rfl rfl rfl ⟨fun _ => vty_i0 _, fun _ => vty_i0 _, trivial⟩ ad w0 he) rfl d_lw_1269 ⟨by decide, by decide⟩ ⟨hc, hs⟩ rfl rfl (Nat.le_of_ble_eq_true rfl) rfl (fun r wm' hr hy' hfm => ?_)
  rcases hr with ⟨h, -⟩ | ⟨h, -⟩ | ⟨-, v, rfl⟩
  all_goals first | (exact absurd h (by decide)) | skip
  refine z_pop2 X d_lw_1272 rfl ?_
  refine z_goto X d_lw_1273 (tgt := 2193) (by decide) ?_
  exact hK wx' wm' hx' hl' hy' (RelQ.of (hR.m.keep hfx hfm (by decide)) (hR.a.keep hfx hfm (by decide)) (hR.d.keep hfx hfm (by decide)) (hR.c.keep hfx hfm (by decide)) (hR.x.keep hfx hfm (by decide)) (hR.b.keep hfx hfm (by decide)) (hR.h.keep hfx hfm (by decide)) (hR.t.keep hfx hfm (by decide)) (hR.k.keep hfx hfm (by decide)))
theorem lc_28 (X : ZC p s m #[Value.ref b] meth c code 8 RL G (fun q : Nat => s.heap.size ≤ q) ret nm) (hX : va_X b L xs s s.heap) (hbl : b < s.heap.size) (hbA : ¬ s.heap.size ≤ b) (hi0 : 0 ≤ i.toInt) (hi1 : i.toInt + 10 ≤ (L : Int) ∧ L ≤ 5120) (hx : CWx G x wx) (hy : MWx G y wm) (hR : RelQ G wx wm) (hc : kc ≤ room_1.cells) (hs : ks ≤ room_1.slots) (hK : ∀ wx' wm', CWx G x wx' → wx'.length = wx.length → MWx G y wm' → RelQ G wx' wm' → Z p l e room_1 s m #[Value.ref b] below meth c 8 G (fun q : Nat => s.heap.size ≤ q) (lw_Z below #[Value.ref b] s) 2193 (lv5 b x y o i) [] (wx' ++ wm' ++ [(o, aJ G 1 f)]) kc ks) : Z p l e room_1 s m #[Value.ref b] below meth c 8 G (fun q : Nat => s.heap.size ≤ q) (lw_Z below #[Value.ref b] s) 1276 (lv5 b x y o i) [] (wx ++ wm ++ [(o, aJ G 1 f)]) kc ks := by
  refine z_aload_n X d_lw_1276 rfl 1 rfl ?_
  refine z_aload_n X d_lw_1277 rfl 0 rfl ?_
  refine z_iload X d_lw_1278 4 rfl ?_
  refine z_iconst X d_lw_1280 (v := 1) (by decide) ?_
  refine z_iadd X d_lw_1281 ?_
  refine z_sld X hX hbl hbA (lw_in hi0 hi1 (k := 1) (by decide) (by decide)) d_lw_1282 (v := xs (i + 1).toNatClampNeg) rfl ?_
  refine z_aload_n X d_lw_1283 rfl 0 rfl ?_
  refine z_iload X d_lw_1284 4 rfl ?_
  refine z_iconst X d_lw_1286 (v := 2) (by decide) ?_
  refine z_iadd X d_lw_1287 ?_
  refine z_sld X hX hbl hbA (lw_in hi0 hi1 (k := 2) (by decide) (by decide)) d_lw_1288 (v := xs (i + 2).toNatClampNeg) rfl ?_
  rw [List.append_assoc]
  refine cx_callF (k := 1) (rest := []) (As := [.int (xs (i + 1).toNatClampNeg), .int (xs (i + 2).toNatClampNeg)]) (μ := (fun k => ((Value.ref x :: [.int (xs (i + 1).toNatClampNeg), .int (xs (i + 2).toNatClampNeg)])[k]?).getD .null)) X k_L_145 (ac_t_X10_instead_0 l G) (by decide) (by decide) (by decide) hx (fun ad w0 he => pre_mu (C := C_t_X10_instead_0) (ts := [tI0, tI0]) (As := [.int (xs (i + 1).toNatClampNeg), .int (xs (i + 2).toNatClampNeg)]) rfl rfl rfl rfl ⟨fun _ => vty_i0 _, fun _ => vty_i0 _, trivial⟩ ad w0 he) rfl d_lw_1289 ⟨by decide, by decide⟩ ⟨hc, hs⟩ rfl rfl (by decide) rfl (fun r wx' hr hx' hl' hfx => ?_)
  rw [← List.append_assoc]
  rcases hr with ⟨h, -⟩ | ⟨h, -⟩ | ⟨-, v, rfl⟩
  all_goals first | (exact absurd h (by decide)) | skip
  refine z_pop2 X d_lw_1292 rfl ?_
  refine z_aload_n X d_lw_1293 rfl 2 rfl ?_
  refine z_aload_n X d_lw_1294 rfl 0 rfl ?_
  refine z_iload X d_lw_1295 4 rfl ?_
  refine z_iconst X d_lw_1297 (v := 1) (by decide) ?_
  refine z_iadd X d_lw_1298 ?_
  refine z_sld X hX hbl hbA (lw_in hi0 hi1 (k := 1) (by decide) (by decide)) d_lw_1299 (v := xs (i + 1).toNatClampNeg) rfl ?_
  refine z_aload_n X d_lw_1300 rfl 0 rfl ?_
  refine z_iload X d_lw_1301 4 rfl ?_
  refine z_iconst X d_lw_1303 (v := 2) (by decide) ?_
  refine z_iadd X d_lw_1304 ?_
  refine z_sld X hX hbl hbA (lw_in hi0 hi1 (k := 2) (by decide) (by decide)) d_lw_1305 (v := xs (i + 2).toNatClampNeg) rfl ?_
  refine mx_callF (k := 1) (wa := wx') (rest := []) (As := [.int (xs (i + 1).toNatClampNeg), .int (xs (i + 2).toNatClampNeg)]) (μ := (fun k => ((Value.ref y :: [.int (xs (i + 1).toNatClampNeg), .int (xs (i + 2).toNatClampNeg)])[k]?).getD .null)) X k_L_148 (ac_X11_instead_0 l G) (by decide) (by decide) hy (fun ad w0 he => pre_mu (C := C_X11_instead_0) (ts := [tI0, tI0]) (As := [.int (xs (i + 1).toNatClampNeg), .int (xs (i + 2).toNatClampNeg)]) rfl rfl rfl rfl ⟨fun _ => vty_i0 _, fun _ => vty_i0 _, trivial⟩ ad w0 he) rfl d_lw_1306 ⟨by decide, by decide⟩ ⟨hc, hs⟩ rfl rfl (Nat.le_of_ble_eq_true rfl) rfl (fun r wm' hr hy' hfm => ?_)
  rcases hr with ⟨h, -⟩ | ⟨h, -⟩ | ⟨-, v, rfl⟩
  all_goals first | (exact absurd h (by decide)) | skip
  refine z_pop2 X d_lw_1309 rfl ?_
  refine z_goto X d_lw_1310 (tgt := 2193) (by decide) ?_
  exact hK wx' wm' hx' hl' hy' (RelQ.of (hR.m.keep hfx hfm (by decide)) (hR.a.keep hfx hfm (by decide)) (hR.d.keep hfx hfm (by decide)) (hR.c.keep hfx hfm (by decide)) (hR.x.keep hfx hfm (by decide)) (hR.b.keep hfx hfm (by decide)) (hR.h.keep hfx hfm (by decide)) (hR.t.keep hfx hfm (by decide)) (hR.k.keep hfx hfm (by decide)))
theorem lc_29 (X : ZC p s m #[Value.ref b] meth c code 8 RL G (fun q : Nat => s.heap.size ≤ q) ret nm) (hX : va_X b L xs s s.heap) (hbl : b < s.heap.size) (hbA : ¬ s.heap.size ≤ b) (hi0 : 0 ≤ i.toInt) (hi1 : i.toInt + 10 ≤ (L : Int) ∧ L ≤ 5120) (hx : CWx G x wx) (hy : MWx G y wm) (hR : RelQ G wx wm) (hc : kc ≤ room_1.cells) (hs : ks ≤ room_1.slots) (hK : ∀ wx' wm', CWx G x wx' → wx'.length = wx.length → MWx G y wm' → RelQ G wx' wm' → Z p l e room_1 s m #[Value.ref b] below meth c 8 G (fun q : Nat => s.heap.size ≤ q) (lw_Z below #[Value.ref b] s) 2193 (lv5 b x y o i) [] (wx' ++ wm' ++ [(o, aJ G 1 f)]) kc ks) : Z p l e room_1 s m #[Value.ref b] below meth c 8 G (fun q : Nat => s.heap.size ≤ q) (lw_Z below #[Value.ref b] s) 1313 (lv5 b x y o i) [] (wx ++ wm ++ [(o, aJ G 1 f)]) kc ks := by
  refine z_aload_n X d_lw_1313 rfl 1 rfl ?_
  refine z_aload_n X d_lw_1314 rfl 0 rfl ?_
  refine z_iload X d_lw_1315 4 rfl ?_
  refine z_iconst X d_lw_1317 (v := 1) (by decide) ?_
  refine z_iadd X d_lw_1318 ?_
  refine z_sld X hX hbl hbA (lw_in hi0 hi1 (k := 1) (by decide) (by decide)) d_lw_1319 (v := xs (i + 1).toNatClampNeg) rfl ?_
  refine z_aload_n X d_lw_1320 rfl 0 rfl ?_
  refine z_iload X d_lw_1321 4 rfl ?_
  refine z_iconst X d_lw_1323 (v := 2) (by decide) ?_
  refine z_iadd X d_lw_1324 ?_
  refine z_sld X hX hbl hbA (lw_in hi0 hi1 (k := 2) (by decide) (by decide)) d_lw_1325 (v := xs (i + 2).toNatClampNeg) rfl ?_
  refine z_i2l X d_lw_1326 rfl ?_
  refine z_bipush X d_lw_1327 (v := 32) (by decide) ?_
  refine z_lshl X d_lw_1329 (v := (((xs (i + 2).toNatClampNeg).toInt64) <<< (((32 : Int32)).toInt64 &&& 63))) rfl ?_
  refine z_aload_n X d_lw_1330 rfl 0 rfl ?_
  refine z_iload X d_lw_1331 4 rfl ?_
  refine z_iconst X d_lw_1333 (v := 3) (by decide) ?_
  refine z_iadd X d_lw_1334 ?_
  refine z_sld X hX hbl hbA (lw_in hi0 hi1 (k := 3) (by decide) (by decide)) d_lw_1335 (v := xs (i + 3).toNatClampNeg) rfl ?_
  refine z_i2l X d_lw_1336 rfl ?_
  refine z_ldc2 X d_lw_1337 (v := 4294967295) cn_L_149 ?_
  refine z_land X d_lw_1340 ?_
  refine z_lor X d_lw_1341 ?_
  rw [List.append_assoc]
  refine cx_callF (k := 0) (rest := []) (As := [.int (xs (i + 1).toNatClampNeg), .long ((((((xs (i + 2).toNatClampNeg).toInt64) <<< (((32 : Int32)).toInt64 &&& 63))) ||| ((((xs (i + 3).toNatClampNeg).toInt64) &&& ((4294967295 : Int64))))))]) (μ := (fun k => ((Value.ref x :: [.int (xs (i + 1).toNatClampNeg), .long ((((((xs (i + 2).toNatClampNeg).toInt64) <<< (((32 : Int32)).toInt64 &&& 63))) ||| ((((xs (i + 3).toNatClampNeg).toInt64) &&& ((4294967295 : Int64))))))])[k]?).getD .null)) X k_L_151 (ac_t_X10_fewest_0 l G) (by decide) (by decide) (by decide) hx (fun ad w0 he => pre_mu (C := C_t_X10_fewest_0) (ts := [tI0, tL0]) (As := [.int (xs (i + 1).toNatClampNeg), .long ((((((xs (i + 2).toNatClampNeg).toInt64) <<< (((32 : Int32)).toInt64 &&& 63))) ||| ((((xs (i + 3).toNatClampNeg).toInt64) &&& ((4294967295 : Int64))))))]) rfl rfl rfl rfl ⟨fun _ => vty_i0 _, fun _ => vty_l0 _, trivial⟩ ad w0 he) rfl d_lw_1342 ⟨by decide, by decide⟩ ⟨hc, hs⟩ rfl rfl (by decide) rfl (fun r wx' hr hx' hl' hfx => ?_)
  rw [← List.append_assoc]
  rcases hr with ⟨h, -⟩ | ⟨-, v, rfl⟩ | ⟨h, -⟩
  all_goals first | (exact absurd h (by decide)) | skip
  refine z_pop X d_lw_1345 rfl ?_
  refine z_aload_n X d_lw_1346 rfl 2 rfl ?_
  refine z_aload_n X d_lw_1347 rfl 0 rfl ?_
  refine z_iload X d_lw_1348 4 rfl ?_
  refine z_iconst X d_lw_1350 (v := 1) (by decide) ?_
  refine z_iadd X d_lw_1351 ?_
  refine z_sld X hX hbl hbA (lw_in hi0 hi1 (k := 1) (by decide) (by decide)) d_lw_1352 (v := xs (i + 1).toNatClampNeg) rfl ?_
  refine z_aload_n X d_lw_1353 rfl 0 rfl ?_
  refine z_iload X d_lw_1354 4 rfl ?_
  refine z_iconst X d_lw_1356 (v := 2) (by decide) ?_
  refine z_iadd X d_lw_1357 ?_
  refine z_sld X hX hbl hbA (lw_in hi0 hi1 (k := 2) (by decide) (by decide)) d_lw_1358 (v := xs (i + 2).toNatClampNeg) rfl ?_
  refine z_i2l X d_lw_1359 rfl ?_
  refine z_bipush X d_lw_1360 (v := 32) (by decide) ?_
  refine z_lshl X d_lw_1362 (v := (((xs (i + 2).toNatClampNeg).toInt64) <<< (((32 : Int32)).toInt64 &&& 63))) rfl ?_
  refine z_aload_n X d_lw_1363 rfl 0 rfl ?_
  refine z_iload X d_lw_1364 4 rfl ?_
  refine z_iconst X d_lw_1366 (v := 3) (by decide) ?_
  refine z_iadd X d_lw_1367 ?_
  refine z_sld X hX hbl hbA (lw_in hi0 hi1 (k := 3) (by decide) (by decide)) d_lw_1368 (v := xs (i + 3).toNatClampNeg) rfl ?_
  refine z_i2l X d_lw_1369 rfl ?_
  refine z_ldc2 X d_lw_1370 (v := 4294967295) cn_L_149 ?_
  refine z_land X d_lw_1373 ?_
  refine z_lor X d_lw_1374 ?_
  refine mx_callF (k := 0) (wa := wx') (rest := []) (As := [.int (xs (i + 1).toNatClampNeg), .long ((((((xs (i + 2).toNatClampNeg).toInt64) <<< (((32 : Int32)).toInt64 &&& 63))) ||| ((((xs (i + 3).toNatClampNeg).toInt64) &&& ((4294967295 : Int64))))))]) (μ := (fun k => ((Value.ref y :: [.int (xs (i + 1).toNatClampNeg), .long ((((((xs (i + 2).toNatClampNeg).toInt64) <<< (((32 : Int32)).toInt64 &&& 63))) ||| ((((xs (i + 3).toNatClampNeg).toInt64) &&& ((4294967295 : Int64))))))])[k]?).getD .null)) X k_L_155 (ac_X11_fewest_0 l G) (by decide) (by decide) hy (fun ad w0 he => pre_mu (C := C_X11_fewest_0) (ts := [tI0, tL0]) (As := [.int (xs (i + 1).toNatClampNeg), .long ((((((xs (i + 2).toNatClampNeg).toInt64) <<< (((32 : Int32)).toInt64 &&& 63))) ||| ((((xs (i + 3).toNatClampNeg).toInt64) &&& ((4294967295 : Int64))))))]) rfl rfl rfl rfl ⟨fun _ => vty_i0 _, fun _ => vty_l0 _, trivial⟩ ad w0 he) rfl d_lw_1375 ⟨by decide, by decide⟩ ⟨hc, hs⟩ rfl rfl (Nat.le_of_ble_eq_true rfl) rfl (fun r wm' hr hy' hfm => ?_)
  rcases hr with ⟨h, -⟩ | ⟨-, v, rfl⟩ | ⟨h, -⟩
  all_goals first | (exact absurd h (by decide)) | skip
  refine z_pop X d_lw_1378 rfl ?_
  refine z_goto X d_lw_1379 (tgt := 2193) (by decide) ?_
  exact hK wx' wm' hx' hl' hy' (RelQ.of (hR.m.keep hfx hfm (by decide)) (hR.a.keep hfx hfm (by decide)) (hR.d.keep hfx hfm (by decide)) (hR.c.keep hfx hfm (by decide)) (hR.x.keep hfx hfm (by decide)) (hR.b.keep hfx hfm (by decide)) (hR.h.keep hfx hfm (by decide)) (hR.t.keep hfx hfm (by decide)) (hR.k.keep hfx hfm (by decide)))
theorem lc_30 (X : ZC p s m #[Value.ref b] meth c code 8 RL G (fun q : Nat => s.heap.size ≤ q) ret nm) (hX : va_X b L xs s s.heap) (hbl : b < s.heap.size) (hbA : ¬ s.heap.size ≤ b) (hi0 : 0 ≤ i.toInt) (hi1 : i.toInt + 10 ≤ (L : Int) ∧ L ≤ 5120) (hx : CWx G x wx) (hy : MWx G y wm) (hR : RelQ G wx wm) (hc : kc ≤ room_1.cells) (hs : ks ≤ room_1.slots) (hK : ∀ wx' wm', CWx G x wx' → wx'.length = wx.length → MWx G y wm' → RelQ G wx' wm' → Z p l e room_1 s m #[Value.ref b] below meth c 8 G (fun q : Nat => s.heap.size ≤ q) (lw_Z below #[Value.ref b] s) 2193 (lv5 b x y o i) [] (wx' ++ wm' ++ [(o, aJ G 1 f)]) kc ks) : Z p l e room_1 s m #[Value.ref b] below meth c 8 G (fun q : Nat => s.heap.size ≤ q) (lw_Z below #[Value.ref b] s) 1382 (lv5 b x y o i) [] (wx ++ wm ++ [(o, aJ G 1 f)]) kc ks := by
  refine z_aload_n X d_lw_1382 rfl 1 rfl ?_
  refine z_aload_n X d_lw_1383 rfl 0 rfl ?_
  refine z_iload X d_lw_1384 4 rfl ?_
  refine z_iconst X d_lw_1386 (v := 1) (by decide) ?_
  refine z_iadd X d_lw_1387 ?_
  refine z_sld X hX hbl hbA (lw_in hi0 hi1 (k := 1) (by decide) (by decide)) d_lw_1388 (v := xs (i + 1).toNatClampNeg) rfl ?_
  refine z_aload_n X d_lw_1389 rfl 0 rfl ?_
  refine z_iload X d_lw_1390 4 rfl ?_
  refine z_iconst X d_lw_1392 (v := 2) (by decide) ?_
  refine z_iadd X d_lw_1393 ?_
  refine z_sld X hX hbl hbA (lw_in hi0 hi1 (k := 2) (by decide) (by decide)) d_lw_1394 (v := xs (i + 2).toNatClampNeg) rfl ?_
  rw [List.append_assoc]
  refine cx_callF (k := 1) (rest := []) (As := [.int (xs (i + 1).toNatClampNeg), .int (xs (i + 2).toNatClampNeg)]) (μ := (fun k => ((Value.ref x :: [.int (xs (i + 1).toNatClampNeg), .int (xs (i + 2).toNatClampNeg)])[k]?).getD .null)) X k_L_156 (ac_t_X10_all_0 l G) (by decide) (by decide) (by decide) hx (fun ad w0 he => pre_mu (C := C_t_X10_all_0) (ts := [tI0, tI0]) (As := [.int (xs (i + 1).toNatClampNeg), .int (xs (i + 2).toNatClampNeg)]) rfl rfl rfl rfl ⟨fun _ => vty_i0 _, fun _ => vty_i0 _, trivial⟩ ad w0 he) rfl d_lw_1395 ⟨by decide, by decide⟩ ⟨hc, hs⟩ rfl rfl (by decide) rfl (fun r wx' hr hx' hl' hfx => ?_)
  rw [← List.append_assoc]
  rcases hr with ⟨h, -⟩ | ⟨h, -⟩ | ⟨-, v, rfl⟩
  all_goals first | (exact absurd h (by decide)) | skip
  refine z_pop2 X d_lw_1398 rfl ?_
  refine z_aload_n X d_lw_1399 rfl 2 rfl ?_
  refine z_aload_n X d_lw_1400 rfl 0 rfl ?_
  refine z_iload X d_lw_1401 4 rfl ?_
  refine z_iconst X d_lw_1403 (v := 1) (by decide) ?_
  refine z_iadd X d_lw_1404 ?_
  refine z_sld X hX hbl hbA (lw_in hi0 hi1 (k := 1) (by decide) (by decide)) d_lw_1405 (v := xs (i + 1).toNatClampNeg) rfl ?_
  refine z_aload_n X d_lw_1406 rfl 0 rfl ?_
  refine z_iload X d_lw_1407 4 rfl ?_
  refine z_iconst X d_lw_1409 (v := 2) (by decide) ?_
  refine z_iadd X d_lw_1410 ?_
  refine z_sld X hX hbl hbA (lw_in hi0 hi1 (k := 2) (by decide) (by decide)) d_lw_1411 (v := xs (i + 2).toNatClampNeg) rfl ?_
  refine mx_callF (k := 1) (wa := wx') (rest := []) (As := [.int (xs (i + 1).toNatClampNeg), .int (xs (i + 2).toNatClampNeg)]) (μ := (fun k => ((Value.ref y :: [.int (xs (i + 1).toNatClampNeg), .int (xs (i + 2).toNatClampNeg)])[k]?).getD .null)) X k_L_159 (ac_X11_all_0 l G) (by decide) (by decide) hy (fun ad w0 he => pre_mu (C := C_X11_all_0) (ts := [tI0, tI0]) (As := [.int (xs (i + 1).toNatClampNeg), .int (xs (i + 2).toNatClampNeg)]) rfl rfl rfl rfl ⟨fun _ => vty_i0 _, fun _ => vty_i0 _, trivial⟩ ad w0 he) rfl d_lw_1412 ⟨by decide, by decide⟩ ⟨hc, hs⟩ rfl rfl (Nat.le_of_ble_eq_true rfl) rfl (fun r wm' hr hy' hfm => ?_)
  rcases hr with ⟨h, -⟩ | ⟨h, -⟩ | ⟨-, v, rfl⟩
  all_goals first | (exact absurd h (by decide)) | skip
  refine z_pop2 X d_lw_1415 rfl ?_
  refine z_goto X d_lw_1416 (tgt := 2193) (by decide) ?_
  exact hK wx' wm' hx' hl' hy' (RelQ.of (hR.m.keep hfx hfm (by decide)) (hR.a.keep hfx hfm (by decide)) (hR.d.keep hfx hfm (by decide)) (hR.c.keep hfx hfm (by decide)) (hR.x.keep hfx hfm (by decide)) (hR.b.keep hfx hfm (by decide)) (hR.h.keep hfx hfm (by decide)) (hR.t.keep hfx hfm (by decide)) (hR.k.keep hfx hfm (by decide)))
theorem lc_31 (X : ZC p s m #[Value.ref b] meth c code 8 RL G (fun q : Nat => s.heap.size ≤ q) ret nm) (hX : va_X b L xs s s.heap) (hbl : b < s.heap.size) (hbA : ¬ s.heap.size ≤ b) (hi0 : 0 ≤ i.toInt) (hi1 : i.toInt + 10 ≤ (L : Int) ∧ L ≤ 5120) (hx : CWx G x wx) (hy : MWx G y wm) (hR : RelQ G wx wm) (hc : kc ≤ room_1.cells) (hs : ks ≤ room_1.slots) (hK : ∀ wx' wm', CWx G x wx' → wx'.length = wx.length → MWx G y wm' → RelQ G wx' wm' → Z p l e room_1 s m #[Value.ref b] below meth c 8 G (fun q : Nat => s.heap.size ≤ q) (lw_Z below #[Value.ref b] s) 2193 (lv5 b x y o i) [] (wx' ++ wm' ++ [(o, aJ G 1 f)]) kc ks) : Z p l e room_1 s m #[Value.ref b] below meth c 8 G (fun q : Nat => s.heap.size ≤ q) (lw_Z below #[Value.ref b] s) 1419 (lv5 b x y o i) [] (wx ++ wm ++ [(o, aJ G 1 f)]) kc ks := by
  refine z_aload_n X d_lw_1419 rfl 1 rfl ?_
  refine z_aload_n X d_lw_1420 rfl 0 rfl ?_
  refine z_iload X d_lw_1421 4 rfl ?_
  refine z_iconst X d_lw_1423 (v := 1) (by decide) ?_
  refine z_iadd X d_lw_1424 ?_
  refine z_sld X hX hbl hbA (lw_in hi0 hi1 (k := 1) (by decide) (by decide)) d_lw_1425 (v := xs (i + 1).toNatClampNeg) rfl ?_
  refine z_aload_n X d_lw_1426 rfl 0 rfl ?_
  refine z_iload X d_lw_1427 4 rfl ?_
  refine z_iconst X d_lw_1429 (v := 2) (by decide) ?_
  refine z_iadd X d_lw_1430 ?_
  refine z_sld X hX hbl hbA (lw_in hi0 hi1 (k := 2) (by decide) (by decide)) d_lw_1431 (v := xs (i + 2).toNatClampNeg) rfl ?_
  rw [List.append_assoc]
  refine cx_callF (k := 0) (rest := []) (As := [.int (xs (i + 1).toNatClampNeg), .int (xs (i + 2).toNatClampNeg)]) (μ := (fun k => ((Value.ref x :: [.int (xs (i + 1).toNatClampNeg), .int (xs (i + 2).toNatClampNeg)])[k]?).getD .null)) X k_L_160 (ac_X10_ounce_0 l G) (by decide) (by decide) (by decide) hx (fun ad w0 he => pre_mu (C := C_X10_ounce_0) (ts := [tI0, tI0]) (As := [.int (xs (i + 1).toNatClampNeg), .int (xs (i + 2).toNatClampNeg)]) rfl rfl rfl rfl ⟨fun _ => vty_i0 _, fun _ => vty_i0 _, trivial⟩ ad w0 he) rfl d_lw_1432 ⟨by decide, by decide⟩ ⟨hc, hs⟩ rfl rfl (by decide) rfl (fun r wx' hr hx' hl' hfx => ?_)
  rw [← List.append_assoc]
  rcases hr with ⟨h, -⟩ | ⟨-, v, rfl⟩ | ⟨h, -⟩
  all_goals first | (exact absurd h (by decide)) | skip
  refine z_pop X d_lw_1435 rfl ?_
  refine z_aload_n X d_lw_1436 rfl 2 rfl ?_
  refine z_aload_n X d_lw_1437 rfl 0 rfl ?_
  refine z_iload X d_lw_1438 4 rfl ?_
  refine z_iconst X d_lw_1440 (v := 1) (by decide) ?_
  refine z_iadd X d_lw_1441 ?_
  refine z_sld X hX hbl hbA (lw_in hi0 hi1 (k := 1) (by decide) (by decide)) d_lw_1442 (v := xs (i + 1).toNatClampNeg) rfl ?_
  refine z_aload_n X d_lw_1443 rfl 0 rfl ?_
  refine z_iload X d_lw_1444 4 rfl ?_
  refine z_iconst X d_lw_1446 (v := 2) (by decide) ?_
  refine z_iadd X d_lw_1447 ?_
  refine z_sld X hX hbl hbA (lw_in hi0 hi1 (k := 2) (by decide) (by decide)) d_lw_1448 (v := xs (i + 2).toNatClampNeg) rfl ?_
  refine mx_callF (k := 0) (wa := wx') (rest := []) (As := [.int (xs (i + 1).toNatClampNeg), .int (xs (i + 2).toNatClampNeg)]) (μ := (fun k => ((Value.ref y :: [.int (xs (i + 1).toNatClampNeg), .int (xs (i + 2).toNatClampNeg)])[k]?).getD .null)) X k_L_163 (ac_X11_ounce_0 l G) (by decide) (by decide) hy (fun ad w0 he => pre_mu (C := C_X11_ounce_0) (ts := [tI0, tI0]) (As := [.int (xs (i + 1).toNatClampNeg), .int (xs (i + 2).toNatClampNeg)]) rfl rfl rfl rfl ⟨fun _ => vty_i0 _, fun _ => vty_i0 _, trivial⟩ ad w0 he) rfl d_lw_1449 ⟨by decide, by decide⟩ ⟨hc, hs⟩ rfl rfl (Nat.le_of_ble_eq_true rfl) rfl (fun r wm' hr hy' hfm => ?_)
  rcases hr with ⟨h, -⟩ | ⟨-, v, rfl⟩ | ⟨h, -⟩
  all_goals first | (exact absurd h (by decide)) | skip
  refine z_pop X d_lw_1452 rfl ?_
  refine z_goto X d_lw_1453 (tgt := 2193) (by decide) ?_
  exact hK wx' wm' hx' hl' hy' (RelQ.of (hR.m.keep hfx hfm (by decide)) (hR.a.keep hfx hfm (by decide)) (hR.d.keep hfx hfm (by decide)) (hR.c.keep hfx hfm (by decide)) (hR.x.keep hfx hfm (by decide)) (hR.b.keep hfx hfm (by decide)) (hR.h.keep hfx hfm (by decide)) (hR.t.keep hfx hfm (by decide)) (hR.k.keep hfx hfm (by decide)))
theorem lc_32 (X : ZC p s m #[Value.ref b] meth c code 8 RL G (fun q : Nat => s.heap.size ≤ q) ret nm) (hX : va_X b L xs s s.heap) (hbl : b < s.heap.size) (hbA : ¬ s.heap.size ≤ b) (hi0 : 0 ≤ i.toInt) (hi1 : i.toInt + 10 ≤ (L : Int) ∧ L ≤ 5120) (hx : CWx G x wx) (hy : MWx G y wm) (hR : RelQ G wx wm) (hc : kc ≤ room_1.cells) (hs : ks ≤ room_1.slots) (hK : ∀ wx' wm', CWx G x wx' → wx'.length = wx.length → MWx G y wm' → RelQ G wx' wm' → Z p l e room_1 s m #[Value.ref b] below meth c 8 G (fun q : Nat => s.heap.size ≤ q) (lw_Z below #[Value.ref b] s) 2193 (lv5 b x y o i) [] (wx' ++ wm' ++ [(o, aJ G 1 f)]) kc ks) : Z p l e room_1 s m #[Value.ref b] below meth c 8 G (fun q : Nat => s.heap.size ≤ q) (lw_Z below #[Value.ref b] s) 1456 (lv5 b x y o i) [] (wx ++ wm ++ [(o, aJ G 1 f)]) kc ks := by
  obtain ⟨n, h9, s9, c9, f9, g9, ⟨n0, n1⟩, rc9, e9, ⟨hn1, hn2⟩, ⟨a2, b2⟩, ⟨a3, b3⟩, ⟨a4, b4⟩, a5, b5⟩ := id hR.m
  refine z_aload_n X d_lw_1456 rfl 1 rfl ?_
  refine z_aload_n X d_lw_1457 rfl 0 rfl ?_
  refine z_iload X d_lw_1458 4 rfl ?_
  refine z_iconst X d_lw_1460 (v := 1) (by decide) ?_
  refine z_iadd X d_lw_1461 ?_
  refine z_sld X hX hbl hbA (lw_in hi0 hi1 (k := 1) (by decide) (by decide)) d_lw_1462 (v := xs (i + 1).toNatClampNeg) rfl ?_
  obtain ⟨hh9, hq, hg, hr, x1, x2, x3, x4, x5, x6, x7⟩ := id hR.h
  obtain rfl := some_int (a2.symm.trans x1)
  obtain ⟨ha0, sa0, ca0, ⟨eh1, es1, ec1⟩, ⟨pq, pg, pa, pb, pe⟩, ⟨rq, rg, ra, rb, re⟩, ⟨fq, fg, fa, fb, fe⟩, ⟨oq, og, oa, ob1, oe⟩, ⟨wq, wg, wa1, wb1, we⟩⟩ := id hR.a
  obtain rfl := some_int (a2.symm.trans eh1)
  obtain rfl := some_int (a3.symm.trans es1)
  obtain rfl := some_int (a4.symm.trans ec1)
  obtain ⟨tq, tX9, tY9, t1, t2, t3, t4, t5⟩ := id hR.t
  obtain ⟨hd1, eh3, ⟨xq, xg, xa, xb, xe⟩, ⟨yq, yg, ya, yb, ye⟩⟩ := id hR.x
  obtain rfl := some_int (a2.symm.trans eh3)
  obtain ⟨hb9, sb9, cb9, ⟨bh1, bs1, bc1⟩, ⟨bx, bx1, bx2⟩, ⟨by_, by1, by2⟩, ⟨bf, bf1, bf2⟩, ⟨bo, bo1, bo2⟩, ⟨bw, bw1, bw2⟩⟩ := id hR.b
  obtain rfl := some_int (a2.symm.trans bh1)
  obtain rfl := some_int (a3.symm.trans bs1)
  obtain rfl := some_int (a4.symm.trans bc1)
  obtain rfl := arrinj (ra.symm.trans x4)
  obtain rfl := arrinj (xa.symm.trans bx1)
  obtain rfl := arrinj (ya.symm.trans by1)
  have r9_ := cwx_ints hx (k := 9) (n := 16) (a := 0) (b := 9) rfl rfl ra
  have q9_ := cwx_ints hx (k := 10) (n := 16) (a := 0) (b := 9) rfl rfl x2
  have p9_ := cwx_ints hx (k := 6) (n := 16) (a := 0) (b := 1) rfl rfl pa
  have hsb := SB.of (h := h9.toInt) (fp := pq) (fh := hq) (fr := rq) (fx := xq) (fy := yq) (t := tq) (pq := xs (i + 1).toNatClampNeg) rc9.1.2 p9_ q9_ r9_ bx2 by2 t5
  rw [List.append_assoc]
  refine cx_callG (rm := { frames := 5, cells := 0, slots := 0, locals := 129 }) (m0 := C_t_X10_settle_0.2.2.2.2.1) (Ψ := (fun r w1 => ∃ (v9 : Int32) (q9 : Nat → Int32), r = some (.int v9) ∧ SetE h9.toInt pq rq xq yq (tX tq (xs (i + 1).toNatClampNeg)) (tY tq (xs (i + 1).toNatClampNeg)) (xs (i + 1).toNatClampNeg).toInt hq v9 q9 ∧ CQ G w1 10 16 q9)) (rest := []) (As := [.int (xs (i + 1).toNatClampNeg)]) X k_L_164 (fun ad w0 hW hag => ac_sex l G hW ((fget_eq (hag 5 0 (by decide))).trans a2) ((hag 6 0 (by decide)).trans pa) ((hag 7 0 (by decide)).trans xa) ((hag 8 0 (by decide)).trans ya) ((hag 9 0 (by decide)).trans ra) ((hag 10 0 (by decide)).trans x2) ((hag 105 0 (by decide)).trans t1) hsb) ⟨rfl, rfl⟩ (by decide) (fun r w1 wc hl h => (h.elim fun v9 h => h.elim fun q9 h => ⟨v9, q9, h.1, h.2.1, h.2.2.app (by omega)⟩)) hx d_lw_1463 ⟨by decide, by decide⟩ ⟨hc, hs⟩ rfl rfl (by decide) rfl (fun r wx' hz hx' hl' hfx => ?_)
  rw [← List.append_assoc]
  obtain ⟨v, rfl⟩ := (hz.elim fun v9 h => h.elim fun q9 h => ⟨v9, h.1⟩ : ∃ v : Int32, r = some (Value.int v))
  refine z_pop X d_lw_1466 rfl ?_
  refine z_aload_n X d_lw_1467 rfl 2 rfl ?_
  refine z_aload_n X d_lw_1468 rfl 0 rfl ?_
  refine z_iload X d_lw_1469 4 rfl ?_
  refine z_iconst X d_lw_1471 (v := 1) (by decide) ?_
  refine z_iadd X d_lw_1472 ?_
  refine z_sld X hX hbl hbA (lw_in hi0 hi1 (k := 1) (by decide) (by decide)) d_lw_1473 (v := xs (i + 1).toNatClampNeg) rfl ?_
  refine mx_callG (rm := { frames := 3, cells := 0, slots := 0, locals := 69 }) (m0 := C_settle.2.2.2.2.1) (Ψ := (fun r w1 => ∃ (v9 : Int32) (q9 : Nat → Int32), r = some (.int v9) ∧ SetE h9.toInt pg rg xg yg (tX9 (xs (i + 1).toNatClampNeg).toNatClampNeg) (tY9 (xs (i + 1).toNatClampNeg).toNatClampNeg) (xs (i + 1).toNatClampNeg).toInt hg v9 q9 ∧ CQ G w1 6 16 q9)) (wa := wx') (rest := []) (As := [.int (xs (i + 1).toNatClampNeg)]) X k_L_167 (fun ad hW => ac_sem l G hW b2 pb xb yb rb x3 t2 t3) ⟨rfl, rfl⟩ hy d_lw_1474 ⟨by decide, by decide⟩ ⟨hc, hs⟩ rfl rfl (Nat.le_of_ble_eq_true rfl) rfl (fun r wm' hz2 hy' hfm => ?_)
  obtain ⟨v2, rfl⟩ := (hz2.elim fun v9 h => h.elim fun q9 h => ⟨v9, h.1⟩ : ∃ v : Int32, r = some (Value.int v))
  obtain ⟨ev0, hM'⟩ := RelH.settle (pq := xs (i + 1).toNatClampNeg) hfx (by decide) a2 ra rc9.1.2 pe re xe ye x5 x6 x7 r9_ q9_ t4 hz hz2
  have hR' : RelQ G wx' wm' := RelQ.of (hR.m.keep hfx hfm (by decide)) (hR.a.keep hfx hfm (by decide)) (hR.d.keep hfx hfm (by decide)) (hR.c.keep hfx hfm (by decide)) (hR.x.keep hfx hfm (by decide)) (hR.b.keep hfx hfm (by decide)) (hM') (hR.t.keep hfx hfm (by decide)) (hR.k.keep hfx hfm (by decide))
  have ev : v.toInt = v2.toInt := congrArg Int32.toInt ev0
  refine z_pop X d_lw_1477 rfl ?_
  refine z_goto X d_lw_1478 (tgt := 2193) (by decide) ?_
  exact hK wx' wm' hx' hl' hy' hR'
theorem lc_33 (X : ZC p s m #[Value.ref b] meth c code 8 RL G (fun q : Nat => s.heap.size ≤ q) ret nm) (hX : va_X b L xs s s.heap) (hbl : b < s.heap.size) (hbA : ¬ s.heap.size ≤ b) (hi0 : 0 ≤ i.toInt) (hi1 : i.toInt + 10 ≤ (L : Int) ∧ L ≤ 5120) (hx : CWx G x wx) (hy : MWx G y wm) (hR : RelQ G wx wm) (hc : kc ≤ room_1.cells) (hs : ks ≤ room_1.slots) (hK : ∀ wx' wm', CWx G x wx' → wx'.length = wx.length → MWx G y wm' → RelQ G wx' wm' → Z p l e room_1 s m #[Value.ref b] below meth c 8 G (fun q : Nat => s.heap.size ≤ q) (lw_Z below #[Value.ref b] s) 2193 (lv5 b x y o i) [] (wx' ++ wm' ++ [(o, aJ G 1 f)]) kc ks) : Z p l e room_1 s m #[Value.ref b] below meth c 8 G (fun q : Nat => s.heap.size ≤ q) (lw_Z below #[Value.ref b] s) 1481 (lv5 b x y o i) [] (wx ++ wm ++ [(o, aJ G 1 f)]) kc ks := by
  refine z_aload_n X d_lw_1481 rfl 1 rfl ?_
  refine z_aload_n X d_lw_1482 rfl 0 rfl ?_
  refine z_iload X d_lw_1483 4 rfl ?_
  refine z_iconst X d_lw_1485 (v := 1) (by decide) ?_
  refine z_iadd X d_lw_1486 ?_
  refine z_sld X hX hbl hbA (lw_in hi0 hi1 (k := 1) (by decide) (by decide)) d_lw_1487 (v := xs (i + 1).toNatClampNeg) rfl ?_
  refine z_aload_n X d_lw_1488 rfl 0 rfl ?_
  refine z_iload X d_lw_1489 4 rfl ?_
  refine z_iconst X d_lw_1491 (v := 2) (by decide) ?_
  refine z_iadd X d_lw_1492 ?_
  refine z_sld X hX hbl hbA (lw_in hi0 hi1 (k := 2) (by decide) (by decide)) d_lw_1493 (v := xs (i + 2).toNatClampNeg) rfl ?_
  refine z_aload_n X d_lw_1494 rfl 0 rfl ?_
  refine z_iload X d_lw_1495 4 rfl ?_
  refine z_iconst X d_lw_1497 (v := 3) (by decide) ?_
  refine z_iadd X d_lw_1498 ?_
  refine z_sld X hX hbl hbA (lw_in hi0 hi1 (k := 3) (by decide) (by decide)) d_lw_1499 (v := xs (i + 3).toNatClampNeg) rfl ?_
  refine z_aload_n X d_lw_1500 rfl 0 rfl ?_
  refine z_iload X d_lw_1501 4 rfl ?_
  refine z_iconst X d_lw_1503 (v := 4) (by decide) ?_
  refine z_iadd X d_lw_1504 ?_
  refine z_sld X hX hbl hbA (lw_in hi0 hi1 (k := 4) (by decide) (by decide)) d_lw_1505 (v := xs (i + 4).toNatClampNeg) rfl ?_
  refine z_aload_n X d_lw_1506 rfl 0 rfl ?_
  refine z_iload X d_lw_1507 4 rfl ?_
  refine z_iconst X d_lw_1509 (v := 5) (by decide) ?_
  refine z_iadd X d_lw_1510 ?_
  refine z_sld X hX hbl hbA (lw_in hi0 hi1 (k := 5) (by decide) (by decide)) d_lw_1511 (v := xs (i + 5).toNatClampNeg) rfl ?_
  rw [List.append_assoc]
  refine cx_callF (k := 0) (rest := []) (As := [.int (xs (i + 1).toNatClampNeg), .int (xs (i + 2).toNatClampNeg), .int (xs (i + 3).toNatClampNeg), .int (xs (i + 4).toNatClampNeg), .int (xs (i + 5).toNatClampNeg)]) (μ := (fun k => ((Value.ref x :: [.int (xs (i + 1).toNatClampNeg), .int (xs (i + 2).toNatClampNeg), .int (xs (i + 3).toNatClampNeg), .int (xs (i + 4).toNatClampNeg), .int (xs (i + 5).toNatClampNeg)])[k]?).getD .null)) X k_L_168 (ac_X10_both_0 l G) (by decide) (by decide) (by decide) hx (fun ad w0 he => pre_mu (C := C_X10_both_0) (ts := [tI0, tI0, tI0, tI0, tI0]) (As := [.int (xs (i + 1).toNatClampNeg), .int (xs (i + 2).toNatClampNeg), .int (xs (i + 3).toNatClampNeg), .int (xs (i + 4).toNatClampNeg), .int (xs (i + 5).toNatClampNeg)]) rfl rfl rfl rfl ⟨fun _ => vty_i0 _, fun _ => vty_i0 _, fun _ => vty_i0 _, fun _ => vty_i0 _, fun _ => vty_i0 _, trivial⟩ ad w0 he) rfl d_lw_1512 ⟨by decide, by decide⟩ ⟨hc, hs⟩ rfl rfl (by decide) rfl (fun r wx' hr hx' hl' hfx => ?_)
  rw [← List.append_assoc]
  rcases hr with ⟨h, -⟩ | ⟨-, v, rfl⟩ | ⟨h, -⟩
  all_goals first | (exact absurd h (by decide)) | skip
  refine z_pop X d_lw_1515 rfl ?_
  refine z_aload_n X d_lw_1516 rfl 2 rfl ?_
  refine z_aload_n X d_lw_1517 rfl 0 rfl ?_
  refine z_iload X d_lw_1518 4 rfl ?_
  refine z_iconst X d_lw_1520 (v := 1) (by decide) ?_
  refine z_iadd X d_lw_1521 ?_
  refine z_sld X hX hbl hbA (lw_in hi0 hi1 (k := 1) (by decide) (by decide)) d_lw_1522 (v := xs (i + 1).toNatClampNeg) rfl ?_
  refine z_aload_n X d_lw_1523 rfl 0 rfl ?_
  refine z_iload X d_lw_1524 4 rfl ?_
  refine z_iconst X d_lw_1526 (v := 2) (by decide) ?_
  refine z_iadd X d_lw_1527 ?_
  refine z_sld X hX hbl hbA (lw_in hi0 hi1 (k := 2) (by decide) (by decide)) d_lw_1528 (v := xs (i + 2).toNatClampNeg) rfl ?_
  refine z_aload_n X d_lw_1529 rfl 0 rfl ?_
  refine z_iload X d_lw_1530 4 rfl ?_
  refine z_iconst X d_lw_1532 (v := 3) (by decide) ?_
  refine z_iadd X d_lw_1533 ?_
  refine z_sld X hX hbl hbA (lw_in hi0 hi1 (k := 3) (by decide) (by decide)) d_lw_1534 (v := xs (i + 3).toNatClampNeg) rfl ?_
  refine z_aload_n X d_lw_1535 rfl 0 rfl ?_
  refine z_iload X d_lw_1536 4 rfl ?_
  refine z_iconst X d_lw_1538 (v := 4) (by decide) ?_
  refine z_iadd X d_lw_1539 ?_
  refine z_sld X hX hbl hbA (lw_in hi0 hi1 (k := 4) (by decide) (by decide)) d_lw_1540 (v := xs (i + 4).toNatClampNeg) rfl ?_
  refine z_aload_n X d_lw_1541 rfl 0 rfl ?_
  refine z_iload X d_lw_1542 4 rfl ?_
  refine z_iconst X d_lw_1544 (v := 5) (by decide) ?_
  refine z_iadd X d_lw_1545 ?_
  refine z_sld X hX hbl hbA (lw_in hi0 hi1 (k := 5) (by decide) (by decide)) d_lw_1546 (v := xs (i + 5).toNatClampNeg) rfl ?_
  refine mx_callF (k := 0) (wa := wx') (rest := []) (As := [.int (xs (i + 1).toNatClampNeg), .int (xs (i + 2).toNatClampNeg), .int (xs (i + 3).toNatClampNeg), .int (xs (i + 4).toNatClampNeg), .int (xs (i + 5).toNatClampNeg)]) (μ := (fun k => ((Value.ref y :: [.int (xs (i + 1).toNatClampNeg), .int (xs (i + 2).toNatClampNeg), .int (xs (i + 3).toNatClampNeg), .int (xs (i + 4).toNatClampNeg), .int (xs (i + 5).toNatClampNeg)])[k]?).getD .null)) X k_L_172 (ac_X11_both_0 l G) (by decide) (by decide) hy (fun ad w0 he => pre_mu (C := C_X11_both_0) (ts := [tI0, tI0, tI0, tI0, tI0]) (As := [.int (xs (i + 1).toNatClampNeg), .int (xs (i + 2).toNatClampNeg), .int (xs (i + 3).toNatClampNeg), .int (xs (i + 4).toNatClampNeg), .int (xs (i + 5).toNatClampNeg)]) rfl rfl rfl rfl ⟨fun _ => vty_i0 _, fun _ => vty_i0 _, fun _ => vty_i0 _, fun _ => vty_i0 _, fun _ => vty_i0 _, trivial⟩ ad w0 he) rfl d_lw_1547 ⟨by decide, by decide⟩ ⟨hc, hs⟩ rfl rfl (Nat.le_of_ble_eq_true rfl) rfl (fun r wm' hr hy' hfm => ?_)
  rcases hr with ⟨h, -⟩ | ⟨-, v, rfl⟩ | ⟨h, -⟩
  all_goals first | (exact absurd h (by decide)) | skip
  refine z_pop X d_lw_1550 rfl ?_
  refine z_goto X d_lw_1551 (tgt := 2193) (by decide) ?_
  exact hK wx' wm' hx' hl' hy' (RelQ.of (hR.m.keep hfx hfm (by decide)) (hR.a.keep hfx hfm (by decide)) (hR.d.keep hfx hfm (by decide)) (hR.c.keep hfx hfm (by decide)) (hR.x.keep hfx hfm (by decide)) (hR.b.keep hfx hfm (by decide)) (hR.h.keep hfx hfm (by decide)) (hR.t.keep hfx hfm (by decide)) (hR.k.keep hfx hfm (by decide)))
end LWC
