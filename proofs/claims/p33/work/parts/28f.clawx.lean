/-! the law: its cases, the relation kept -/
section LWC
variable {p : Program} {l : Launch} {e : Env} {s : State} {m : MethodId} {below : List Frame} {meth : Method} {c : Code} {G : KG} {nm : String} {b L x y o : Nat} {xs : Nat → Int32} {i : Int32} {f : Nat → Int64} {wx wm : va_W} {kc ks : Nat}
theorem lc_34 (X : ZC p s m #[Value.ref b] meth c code 8 RL G (fun q : Nat => s.heap.size ≤ q) ret nm) (hX : va_X b L xs s s.heap) (hbl : b < s.heap.size) (hbA : ¬ s.heap.size ≤ b) (hi0 : 0 ≤ i.toInt) (hi1 : i.toInt + 10 ≤ (L : Int) ∧ L ≤ 5120) (hx : CWx G x wx) (hy : MWx G y wm) (hR : RelQ G wx wm) (hc : kc ≤ room_1.cells) (hs : ks ≤ room_1.slots) (hK : ∀ wx' wm', CWx G x wx' → wx'.length = wx.length → MWx G y wm' → RelQ G wx' wm' → Z p l e room_1 s m #[Value.ref b] below meth c 8 G (fun q : Nat => s.heap.size ≤ q) (lw_Z below #[Value.ref b] s) 2192 (lv5 b x y o i) [] (wx' ++ wm' ++ [(o, aJ G 1 f)]) kc ks) : Z p l e room_1 s m #[Value.ref b] below meth c 8 G (fun q : Nat => s.heap.size ≤ q) (lw_Z below #[Value.ref b] s) 1553 (lv5 b x y o i) [] (wx ++ wm ++ [(o, aJ G 1 f)]) kc ks := by
  refine z_aload_n X d_lw_1553 rfl 1 rfl ?_
  refine z_aload_n X d_lw_1554 rfl 0 rfl ?_
  refine z_iload X d_lw_1555 4 rfl ?_
  refine z_iconst X d_lw_1557 (v := 1) (by decide) ?_
  refine z_iadd X d_lw_1558 ?_
  refine z_sld X hX hbl hbA (lw_in hi0 hi1 (k := 1) (by decide) (by decide)) d_lw_1559 (v := xs (i + 1).toNatClampNeg) rfl ?_
  rw [List.append_assoc]
  refine cx_callF (k := 1) (rest := []) (As := [.int (xs (i + 1).toNatClampNeg)]) (μ := (fun k => ((Value.ref x :: [.int (xs (i + 1).toNatClampNeg)])[k]?).getD .null)) X k_L_173 (ac_t_X10_two_0 l G) (by decide) (by decide) (by decide) hx (fun ad w0 he => pre_mu (C := C_t_X10_two_0) (ts := [tI0]) (As := [.int (xs (i + 1).toNatClampNeg)]) rfl rfl rfl rfl ⟨fun _ => vty_i0 _, trivial⟩ ad w0 he) rfl d_lw_1560 ⟨by decide, by decide⟩ ⟨hc, hs⟩ rfl rfl (by decide) rfl (fun r wx' hr hx' hl' hfx => ?_)
  rw [← List.append_assoc]
  rcases hr with ⟨h, -⟩ | ⟨h, -⟩ | ⟨-, v, rfl⟩
  all_goals first | (exact absurd h (by decide)) | skip
  refine z_pop2 X d_lw_1563 rfl ?_
  refine z_aload_n X d_lw_1564 rfl 2 rfl ?_
  refine z_aload_n X d_lw_1565 rfl 0 rfl ?_
  refine z_iload X d_lw_1566 4 rfl ?_
  refine z_iconst X d_lw_1568 (v := 1) (by decide) ?_
  refine z_iadd X d_lw_1569 ?_
  refine z_sld X hX hbl hbA (lw_in hi0 hi1 (k := 1) (by decide) (by decide)) d_lw_1570 (v := xs (i + 1).toNatClampNeg) rfl ?_
  refine mx_callF (k := 1) (wa := wx') (rest := []) (As := [.int (xs (i + 1).toNatClampNeg)]) (μ := (fun k => ((Value.ref y :: [.int (xs (i + 1).toNatClampNeg)])[k]?).getD .null)) X k_L_176 (ac_X11_two_0 l G) (by decide) (by decide) hy (fun ad w0 he => pre_mu (C := C_X11_two_0) (ts := [tI0]) (As := [.int (xs (i + 1).toNatClampNeg)]) rfl rfl rfl rfl ⟨fun _ => vty_i0 _, trivial⟩ ad w0 he) rfl d_lw_1571 ⟨by decide, by decide⟩ ⟨hc, hs⟩ rfl rfl (Nat.le_of_ble_eq_true rfl) rfl (fun r wm' hr hy' hfm => ?_)
  rcases hr with ⟨h, -⟩ | ⟨h, -⟩ | ⟨-, v, rfl⟩
  all_goals first | (exact absurd h (by decide)) | skip
  refine z_pop2 X d_lw_1574 rfl ?_
  refine z_goto X d_lw_1575 (tgt := 2192) (by decide) ?_
  exact hK wx' wm' hx' hl' hy' (RelQ.of (hR.m.keep hfx hfm (by decide)) (hR.a.keep hfx hfm (by decide)) (hR.d.keep hfx hfm (by decide)) (hR.c.keep hfx hfm (by decide)) (hR.x.keep hfx hfm (by decide)) (hR.b.keep hfx hfm (by decide)) (hR.h.keep hfx hfm (by decide)) (hR.t.keep hfx hfm (by decide)) (hR.k.keep hfx hfm (by decide)))
theorem lc_35 (X : ZC p s m #[Value.ref b] meth c code 8 RL G (fun q : Nat => s.heap.size ≤ q) ret nm) (hX : va_X b L xs s s.heap) (hbl : b < s.heap.size) (hbA : ¬ s.heap.size ≤ b) (hi0 : 0 ≤ i.toInt) (hi1 : i.toInt + 10 ≤ (L : Int) ∧ L ≤ 5120) (hx : CWx G x wx) (hy : MWx G y wm) (hR : RelQ G wx wm) (hc : kc ≤ room_1.cells) (hs : ks ≤ room_1.slots) (hK : ∀ wx' wm', CWx G x wx' → wx'.length = wx.length → MWx G y wm' → RelQ G wx' wm' → Z p l e room_1 s m #[Value.ref b] below meth c 8 G (fun q : Nat => s.heap.size ≤ q) (lw_Z below #[Value.ref b] s) 2192 (lv5 b x y o i) [] (wx' ++ wm' ++ [(o, aJ G 1 f)]) kc ks) : Z p l e room_1 s m #[Value.ref b] below meth c 8 G (fun q : Nat => s.heap.size ≤ q) (lw_Z below #[Value.ref b] s) 1578 (lv5 b x y o i) [] (wx ++ wm ++ [(o, aJ G 1 f)]) kc ks := by
  refine z_aload_n X d_lw_1578 rfl 1 rfl ?_
  refine z_aload_n X d_lw_1579 rfl 0 rfl ?_
  refine z_iload X d_lw_1580 4 rfl ?_
  refine z_iconst X d_lw_1582 (v := 1) (by decide) ?_
  refine z_iadd X d_lw_1583 ?_
  refine z_sld X hX hbl hbA (lw_in hi0 hi1 (k := 1) (by decide) (by decide)) d_lw_1584 (v := xs (i + 1).toNatClampNeg) rfl ?_
  refine z_aload_n X d_lw_1585 rfl 0 rfl ?_
  refine z_iload X d_lw_1586 4 rfl ?_
  refine z_iconst X d_lw_1588 (v := 2) (by decide) ?_
  refine z_iadd X d_lw_1589 ?_
  refine z_sld X hX hbl hbA (lw_in hi0 hi1 (k := 2) (by decide) (by decide)) d_lw_1590 (v := xs (i + 2).toNatClampNeg) rfl ?_
  refine z_aload_n X d_lw_1591 rfl 0 rfl ?_
  refine z_iload X d_lw_1592 4 rfl ?_
  refine z_iconst X d_lw_1594 (v := 3) (by decide) ?_
  refine z_iadd X d_lw_1595 ?_
  refine z_sld X hX hbl hbA (lw_in hi0 hi1 (k := 3) (by decide) (by decide)) d_lw_1596 (v := xs (i + 3).toNatClampNeg) rfl ?_
  rw [List.append_assoc]
  refine cx_callF (k := 0) (rest := []) (As := [.int (xs (i + 1).toNatClampNeg), .int (xs (i + 2).toNatClampNeg), .int (xs (i + 3).toNatClampNeg)]) (μ := (fun k => ((Value.ref x :: [.int (xs (i + 1).toNatClampNeg), .int (xs (i + 2).toNatClampNeg), .int (xs (i + 3).toNatClampNeg)])[k]?).getD .null)) X k_L_177 (ac_X10_at_0 l G) (by decide) (by decide) (by decide) hx (fun ad w0 he => pre_mu (C := C_X10_at_0) (ts := [tI0, tI0, tI0]) (As := [.int (xs (i + 1).toNatClampNeg), .int (xs (i + 2).toNatClampNeg), .int (xs (i + 3).toNatClampNeg)]) rfl rfl rfl rfl ⟨fun _ => vty_i0 _, fun _ => vty_i0 _, fun _ => vty_i0 _, trivial⟩ ad w0 he) rfl d_lw_1597 ⟨by decide, by decide⟩ ⟨hc, hs⟩ rfl rfl (by decide) rfl (fun r wx' hr hx' hl' hfx => ?_)
  rw [← List.append_assoc]
  rcases hr with ⟨h, -⟩ | ⟨-, v, rfl⟩ | ⟨h, -⟩
  all_goals first | (exact absurd h (by decide)) | skip
  refine z_pop X d_lw_1600 rfl ?_
  refine z_aload_n X d_lw_1601 rfl 2 rfl ?_
  refine z_aload_n X d_lw_1602 rfl 0 rfl ?_
  refine z_iload X d_lw_1603 4 rfl ?_
  refine z_iconst X d_lw_1605 (v := 1) (by decide) ?_
  refine z_iadd X d_lw_1606 ?_
  refine z_sld X hX hbl hbA (lw_in hi0 hi1 (k := 1) (by decide) (by decide)) d_lw_1607 (v := xs (i + 1).toNatClampNeg) rfl ?_
  refine z_aload_n X d_lw_1608 rfl 0 rfl ?_
  refine z_iload X d_lw_1609 4 rfl ?_
  refine z_iconst X d_lw_1611 (v := 2) (by decide) ?_
  refine z_iadd X d_lw_1612 ?_
  refine z_sld X hX hbl hbA (lw_in hi0 hi1 (k := 2) (by decide) (by decide)) d_lw_1613 (v := xs (i + 2).toNatClampNeg) rfl ?_
  refine z_aload_n X d_lw_1614 rfl 0 rfl ?_
  refine z_iload X d_lw_1615 4 rfl ?_
  refine z_iconst X d_lw_1617 (v := 3) (by decide) ?_
  refine z_iadd X d_lw_1618 ?_
  refine z_sld X hX hbl hbA (lw_in hi0 hi1 (k := 3) (by decide) (by decide)) d_lw_1619 (v := xs (i + 3).toNatClampNeg) rfl ?_
  refine mx_callF (k := 0) (wa := wx') (rest := []) (As := [.int (xs (i + 1).toNatClampNeg), .int (xs (i + 2).toNatClampNeg), .int (xs (i + 3).toNatClampNeg)]) (μ := (fun k => ((Value.ref y :: [.int (xs (i + 1).toNatClampNeg), .int (xs (i + 2).toNatClampNeg), .int (xs (i + 3).toNatClampNeg)])[k]?).getD .null)) X k_L_180 (ac_X11_at_0 l G) (by decide) (by decide) hy (fun ad w0 he => pre_mu (C := C_X11_at_0) (ts := [tI0, tI0, tI0]) (As := [.int (xs (i + 1).toNatClampNeg), .int (xs (i + 2).toNatClampNeg), .int (xs (i + 3).toNatClampNeg)]) rfl rfl rfl rfl ⟨fun _ => vty_i0 _, fun _ => vty_i0 _, fun _ => vty_i0 _, trivial⟩ ad w0 he) rfl d_lw_1620 ⟨by decide, by decide⟩ ⟨hc, hs⟩ rfl rfl (Nat.le_of_ble_eq_true rfl) rfl (fun r wm' hr hy' hfm => ?_)
  rcases hr with ⟨h, -⟩ | ⟨-, v, rfl⟩ | ⟨h, -⟩
  all_goals first | (exact absurd h (by decide)) | skip
  refine z_pop X d_lw_1623 rfl ?_
  refine z_goto X d_lw_1624 (tgt := 2192) (by decide) ?_
  exact hK wx' wm' hx' hl' hy' (RelQ.of (hR.m.keep hfx hfm (by decide)) (hR.a.keep hfx hfm (by decide)) (hR.d.keep hfx hfm (by decide)) (hR.c.keep hfx hfm (by decide)) (hR.x.keep hfx hfm (by decide)) (hR.b.keep hfx hfm (by decide)) (hR.h.keep hfx hfm (by decide)) (hR.t.keep hfx hfm (by decide)) (hR.k.keep hfx hfm (by decide)))
theorem lc_36 (X : ZC p s m #[Value.ref b] meth c code 8 RL G (fun q : Nat => s.heap.size ≤ q) ret nm) (hX : va_X b L xs s s.heap) (hbl : b < s.heap.size) (hbA : ¬ s.heap.size ≤ b) (hi0 : 0 ≤ i.toInt) (hi1 : i.toInt + 10 ≤ (L : Int) ∧ L ≤ 5120) (hx : CWx G x wx) (hy : MWx G y wm) (hR : RelQ G wx wm) (hc : kc ≤ room_1.cells) (hs : ks ≤ room_1.slots) (hK : ∀ wx' wm', CWx G x wx' → wx'.length = wx.length → MWx G y wm' → RelQ G wx' wm' → Z p l e room_1 s m #[Value.ref b] below meth c 8 G (fun q : Nat => s.heap.size ≤ q) (lw_Z below #[Value.ref b] s) 2192 (lv5 b x y o i) [] (wx' ++ wm' ++ [(o, aJ G 1 f)]) kc ks) : Z p l e room_1 s m #[Value.ref b] below meth c 8 G (fun q : Nat => s.heap.size ≤ q) (lw_Z below #[Value.ref b] s) 1627 (lv5 b x y o i) [] (wx ++ wm ++ [(o, aJ G 1 f)]) kc ks := by
  refine z_aload_n X d_lw_1627 rfl 1 rfl ?_
  rw [List.append_assoc]
  refine cx_callF (k := 1) (rest := []) (As := []) (μ := (fun k => ((Value.ref x :: [])[k]?).getD .null)) X k_L_181 (ac_t_X10_worst_0 l G) (by decide) (by decide) (by decide) hx (fun ad w0 he => pre_mu (C := C_t_X10_worst_0) (ts := []) (As := []) rfl rfl rfl rfl trivial ad w0 he) rfl d_lw_1628 ⟨by decide, by decide⟩ ⟨hc, hs⟩ rfl rfl (by decide) rfl (fun r wx' hr hx' hl' hfx => ?_)
  rw [← List.append_assoc]
  rcases hr with ⟨h, -⟩ | ⟨h, -⟩ | ⟨-, v, rfl⟩
  all_goals first | (exact absurd h (by decide)) | skip
  refine z_pop2 X d_lw_1631 rfl ?_
  refine z_aload_n X d_lw_1632 rfl 2 rfl ?_
  refine mx_callF (k := 1) (wa := wx') (rest := []) (As := []) (μ := (fun k => ((Value.ref y :: [])[k]?).getD .null)) X k_L_185 (ac_X11_worst_0 l G) (by decide) (by decide) hy (fun ad w0 he => pre_mu (C := C_X11_worst_0) (ts := []) (As := []) rfl rfl rfl rfl trivial ad w0 he) rfl d_lw_1633 ⟨by decide, by decide⟩ ⟨hc, hs⟩ rfl rfl (Nat.le_of_ble_eq_true rfl) rfl (fun r wm' hr hy' hfm => ?_)
  rcases hr with ⟨h, -⟩ | ⟨h, -⟩ | ⟨-, v, rfl⟩
  all_goals first | (exact absurd h (by decide)) | skip
  refine z_pop2 X d_lw_1636 rfl ?_
  refine z_goto X d_lw_1637 (tgt := 2192) (by decide) ?_
  exact hK wx' wm' hx' hl' hy' (RelQ.of (hR.m.keep hfx hfm (by decide)) (hR.a.keep hfx hfm (by decide)) (hR.d.keep hfx hfm (by decide)) (hR.c.keep hfx hfm (by decide)) (hR.x.keep hfx hfm (by decide)) (hR.b.keep hfx hfm (by decide)) (hR.h.keep hfx hfm (by decide)) (hR.t.keep hfx hfm (by decide)) (hR.k.keep hfx hfm (by decide)))
theorem lc_37 (X : ZC p s m #[Value.ref b] meth c code 8 RL G (fun q : Nat => s.heap.size ≤ q) ret nm) (hX : va_X b L xs s s.heap) (hbl : b < s.heap.size) (hbA : ¬ s.heap.size ≤ b) (hi0 : 0 ≤ i.toInt) (hi1 : i.toInt + 10 ≤ (L : Int) ∧ L ≤ 5120) (hx : CWx G x wx) (hy : MWx G y wm) (hR : RelQ G wx wm) (hc : kc ≤ room_1.cells) (hs : ks ≤ room_1.slots) (hK : ∀ wx' wm', CWx G x wx' → wx'.length = wx.length → MWx G y wm' → RelQ G wx' wm' → Z p l e room_1 s m #[Value.ref b] below meth c 8 G (fun q : Nat => s.heap.size ≤ q) (lw_Z below #[Value.ref b] s) 2192 (lv5 b x y o i) [] (wx' ++ wm' ++ [(o, aJ G 1 f)]) kc ks) : Z p l e room_1 s m #[Value.ref b] below meth c 8 G (fun q : Nat => s.heap.size ≤ q) (lw_Z below #[Value.ref b] s) 1640 (lv5 b x y o i) [] (wx ++ wm ++ [(o, aJ G 1 f)]) kc ks := by
  refine z_aload_n X d_lw_1640 rfl 1 rfl ?_
  refine z_aload_n X d_lw_1641 rfl 0 rfl ?_
  refine z_iload X d_lw_1642 4 rfl ?_
  refine z_iconst X d_lw_1644 (v := 1) (by decide) ?_
  refine z_iadd X d_lw_1645 ?_
  refine z_sld X hX hbl hbA (lw_in hi0 hi1 (k := 1) (by decide) (by decide)) d_lw_1646 (v := xs (i + 1).toNatClampNeg) rfl ?_
  refine z_aload_n X d_lw_1647 rfl 0 rfl ?_
  refine z_iload X d_lw_1648 4 rfl ?_
  refine z_iconst X d_lw_1650 (v := 2) (by decide) ?_
  refine z_iadd X d_lw_1651 ?_
  refine z_sld X hX hbl hbA (lw_in hi0 hi1 (k := 2) (by decide) (by decide)) d_lw_1652 (v := xs (i + 2).toNatClampNeg) rfl ?_
  refine z_i2l X d_lw_1653 rfl ?_
  refine z_bipush X d_lw_1654 (v := 32) (by decide) ?_
  refine z_lshl X d_lw_1656 (v := (((xs (i + 2).toNatClampNeg).toInt64) <<< (((32 : Int32)).toInt64 &&& 63))) rfl ?_
  refine z_aload_n X d_lw_1657 rfl 0 rfl ?_
  refine z_iload X d_lw_1658 4 rfl ?_
  refine z_iconst X d_lw_1660 (v := 3) (by decide) ?_
  refine z_iadd X d_lw_1661 ?_
  refine z_sld X hX hbl hbA (lw_in hi0 hi1 (k := 3) (by decide) (by decide)) d_lw_1662 (v := xs (i + 3).toNatClampNeg) rfl ?_
  refine z_i2l X d_lw_1663 rfl ?_
  refine z_ldc2 X d_lw_1664 (v := 4294967295) cn_L_149 ?_
  refine z_land X d_lw_1667 ?_
  refine z_lor X d_lw_1668 ?_
  refine z_aload_n X d_lw_1669 rfl 0 rfl ?_
  refine z_iload X d_lw_1670 4 rfl ?_
  refine z_iconst X d_lw_1672 (v := 4) (by decide) ?_
  refine z_iadd X d_lw_1673 ?_
  refine z_sld X hX hbl hbA (lw_in hi0 hi1 (k := 4) (by decide) (by decide)) d_lw_1674 (v := xs (i + 4).toNatClampNeg) rfl ?_
  refine z_aload_n X d_lw_1675 rfl 0 rfl ?_
  refine z_iload X d_lw_1676 4 rfl ?_
  refine z_iconst X d_lw_1678 (v := 5) (by decide) ?_
  refine z_iadd X d_lw_1679 ?_
  refine z_sld X hX hbl hbA (lw_in hi0 hi1 (k := 5) (by decide) (by decide)) d_lw_1680 (v := xs (i + 5).toNatClampNeg) rfl ?_
  refine z_i2l X d_lw_1681 rfl ?_
  refine z_bipush X d_lw_1682 (v := 32) (by decide) ?_
  refine z_lshl X d_lw_1684 (v := (((xs (i + 5).toNatClampNeg).toInt64) <<< (((32 : Int32)).toInt64 &&& 63))) rfl ?_
  refine z_aload_n X d_lw_1685 rfl 0 rfl ?_
  refine z_iload X d_lw_1686 4 rfl ?_
  refine z_bipush X d_lw_1688 (v := 6) (by decide) ?_
  refine z_iadd X d_lw_1690 ?_
  refine z_sld X hX hbl hbA (lw_in hi0 hi1 (k := 6) (by decide) (by decide)) d_lw_1691 (v := xs (i + 6).toNatClampNeg) rfl ?_
  refine z_i2l X d_lw_1692 rfl ?_
  refine z_ldc2 X d_lw_1693 (v := 4294967295) cn_L_149 ?_
  refine z_land X d_lw_1696 ?_
  refine z_lor X d_lw_1697 ?_
  rw [List.append_assoc]
  refine cx_callF (k := 0) (rest := []) (As := [.int (xs (i + 1).toNatClampNeg), .long ((((((xs (i + 2).toNatClampNeg).toInt64) <<< (((32 : Int32)).toInt64 &&& 63))) ||| ((((xs (i + 3).toNatClampNeg).toInt64) &&& ((4294967295 : Int64)))))), .int (xs (i + 4).toNatClampNeg), .long ((((((xs (i + 5).toNatClampNeg).toInt64) <<< (((32 : Int32)).toInt64 &&& 63))) ||| ((((xs (i + 6).toNatClampNeg).toInt64) &&& ((4294967295 : Int64))))))]) (μ := (fun k => ((Value.ref x :: [.int (xs (i + 1).toNatClampNeg), .long ((((((xs (i + 2).toNatClampNeg).toInt64) <<< (((32 : Int32)).toInt64 &&& 63))) ||| ((((xs (i + 3).toNatClampNeg).toInt64) &&& ((4294967295 : Int64)))))), .int (xs (i + 4).toNatClampNeg), .long ((((((xs (i + 5).toNatClampNeg).toInt64) <<< (((32 : Int32)).toInt64 &&& 63))) ||| ((((xs (i + 6).toNatClampNeg).toInt64) &&& ((4294967295 : Int64))))))])[k]?).getD .null)) X k_L_186 (ac_X10_floor_0 l G) (by decide) (by decide) (by decide) hx (fun ad w0 he => pre_mu (C := C_X10_floor_0) (ts := [tI0, tL0, tI0, tL0]) (As := [.int (xs (i + 1).toNatClampNeg), .long ((((((xs (i + 2).toNatClampNeg).toInt64) <<< (((32 : Int32)).toInt64 &&& 63))) ||| ((((xs (i + 3).toNatClampNeg).toInt64) &&& ((4294967295 : Int64)))))), .int (xs (i + 4).toNatClampNeg), .long ((((((xs (i + 5).toNatClampNeg).toInt64) <<< (((32 : Int32)).toInt64 &&& 63))) ||| ((((xs (i + 6).toNatClampNeg).toInt64) &&& ((4294967295 : Int64))))))]) rfl rfl rfl rfl ⟨fun _ => vty_i0 _, fun _ => vty_l0 _, fun _ => vty_i0 _, fun _ => vty_l0 _, trivial⟩ ad w0 he) rfl d_lw_1698 ⟨by decide, by decide⟩ ⟨hc, hs⟩ rfl rfl (by decide) rfl (fun r wx' hr hx' hl' hfx => ?_)
  rw [← List.append_assoc]
  rcases hr with ⟨h, -⟩ | ⟨-, v, rfl⟩ | ⟨h, -⟩
  all_goals first | (exact absurd h (by decide)) | skip
  refine z_pop X d_lw_1701 rfl ?_
  refine z_aload_n X d_lw_1702 rfl 2 rfl ?_
  refine z_aload_n X d_lw_1703 rfl 0 rfl ?_
  refine z_iload X d_lw_1704 4 rfl ?_
  refine z_iconst X d_lw_1706 (v := 1) (by decide) ?_
  refine z_iadd X d_lw_1707 ?_
  refine z_sld X hX hbl hbA (lw_in hi0 hi1 (k := 1) (by decide) (by decide)) d_lw_1708 (v := xs (i + 1).toNatClampNeg) rfl ?_
  refine z_aload_n X d_lw_1709 rfl 0 rfl ?_
  refine z_iload X d_lw_1710 4 rfl ?_
  refine z_iconst X d_lw_1712 (v := 2) (by decide) ?_
  refine z_iadd X d_lw_1713 ?_
  refine z_sld X hX hbl hbA (lw_in hi0 hi1 (k := 2) (by decide) (by decide)) d_lw_1714 (v := xs (i + 2).toNatClampNeg) rfl ?_
  refine z_i2l X d_lw_1715 rfl ?_
  refine z_bipush X d_lw_1716 (v := 32) (by decide) ?_
  refine z_lshl X d_lw_1718 (v := (((xs (i + 2).toNatClampNeg).toInt64) <<< (((32 : Int32)).toInt64 &&& 63))) rfl ?_
  refine z_aload_n X d_lw_1719 rfl 0 rfl ?_
  refine z_iload X d_lw_1720 4 rfl ?_
  refine z_iconst X d_lw_1722 (v := 3) (by decide) ?_
  refine z_iadd X d_lw_1723 ?_
  refine z_sld X hX hbl hbA (lw_in hi0 hi1 (k := 3) (by decide) (by decide)) d_lw_1724 (v := xs (i + 3).toNatClampNeg) rfl ?_
  refine z_i2l X d_lw_1725 rfl ?_
  refine z_ldc2 X d_lw_1726 (v := 4294967295) cn_L_149 ?_
  refine z_land X d_lw_1729 ?_
  refine z_lor X d_lw_1730 ?_
  refine z_aload_n X d_lw_1731 rfl 0 rfl ?_
  refine z_iload X d_lw_1732 4 rfl ?_
  refine z_iconst X d_lw_1734 (v := 4) (by decide) ?_
  refine z_iadd X d_lw_1735 ?_
  refine z_sld X hX hbl hbA (lw_in hi0 hi1 (k := 4) (by decide) (by decide)) d_lw_1736 (v := xs (i + 4).toNatClampNeg) rfl ?_
  refine z_aload_n X d_lw_1737 rfl 0 rfl ?_
  refine z_iload X d_lw_1738 4 rfl ?_
  refine z_iconst X d_lw_1740 (v := 5) (by decide) ?_
  refine z_iadd X d_lw_1741 ?_
  refine z_sld X hX hbl hbA (lw_in hi0 hi1 (k := 5) (by decide) (by decide)) d_lw_1742 (v := xs (i + 5).toNatClampNeg) rfl ?_
  refine z_i2l X d_lw_1743 rfl ?_
  refine z_bipush X d_lw_1744 (v := 32) (by decide) ?_
  refine z_lshl X d_lw_1746 (v := (((xs (i + 5).toNatClampNeg).toInt64) <<< (((32 : Int32)).toInt64 &&& 63))) rfl ?_
  refine z_aload_n X d_lw_1747 rfl 0 rfl ?_
  refine z_iload X d_lw_1748 4 rfl ?_
  refine z_bipush X d_lw_1750 (v := 6) (by decide) ?_
  refine z_iadd X d_lw_1752 ?_
  refine z_sld X hX hbl hbA (lw_in hi0 hi1 (k := 6) (by decide) (by decide)) d_lw_1753 (v := xs (i + 6).toNatClampNeg) rfl ?_
  refine z_i2l X d_lw_1754 rfl ?_
  refine z_ldc2 X d_lw_1755 (v := 4294967295) cn_L_149 ?_
  refine z_land X d_lw_1758 ?_
  refine z_lor X d_lw_1759 ?_
  refine mx_callF (k := 0) (wa := wx') (rest := []) (As := [.int (xs (i + 1).toNatClampNeg), .long ((((((xs (i + 2).toNatClampNeg).toInt64) <<< (((32 : Int32)).toInt64 &&& 63))) ||| ((((xs (i + 3).toNatClampNeg).toInt64) &&& ((4294967295 : Int64)))))), .int (xs (i + 4).toNatClampNeg), .long ((((((xs (i + 5).toNatClampNeg).toInt64) <<< (((32 : Int32)).toInt64 &&& 63))) ||| ((((xs (i + 6).toNatClampNeg).toInt64) &&& ((4294967295 : Int64))))))]) (μ := (fun k => ((Value.ref y :: [.int (xs (i + 1).toNatClampNeg), .long ((((((xs (i + 2).toNatClampNeg).toInt64) <<< (((32 : Int32)).toInt64 &&& 63))) ||| ((((xs (i + 3).toNatClampNeg).toInt64) &&& ((4294967295 : Int64)))))), .int (xs (i + 4).toNatClampNeg), .long ((((((xs (i + 5).toNatClampNeg).toInt64) <<< (((32 : Int32)).toInt64 &&& 63))) ||| ((((xs (i + 6).toNatClampNeg).toInt64) &&& ((4294967295 : Int64))))))])[k]?).getD .null)) X k_L_190 (ac_X11_floor_0 l G) (by decide) (by decide) hy (fun ad w0 he => pre_mu (C := C_X11_floor_0) (ts := [tI0, tL0, tI0, tL0]) (As := [.int (xs (i + 1).toNatClampNeg), .long ((((((xs (i + 2).toNatClampNeg).toInt64) <<< (((32 : Int32)).toInt64 &&& 63))) ||| ((((xs (i + 3).toNatClampNeg).toInt64) &&& ((4294967295 : Int64)))))), .int (xs (i + 4).toNatClampNeg), .long ((((((xs (i + 5).toNatClampNeg).toInt64) <<< (((32 : Int32)).toInt64 &&& 63))) ||| ((((xs (i + 6).toNatClampNeg).toInt64) &&& ((4294967295 : Int64))))))]) rfl rfl rfl rfl ⟨fun _ => vty_i0 _, fun _ => vty_l0 _, fun _ => vty_i0 _, fun _ => vty_l0 _, trivial⟩ ad w0 he) rfl d_lw_1760 ⟨by decide, by decide⟩ ⟨hc, hs⟩ rfl rfl (Nat.le_of_ble_eq_true rfl) rfl (fun r wm' hr hy' hfm => ?_)
  rcases hr with ⟨h, -⟩ | ⟨-, v, rfl⟩ | ⟨h, -⟩
  all_goals first | (exact absurd h (by decide)) | skip
  refine z_pop X d_lw_1763 rfl ?_
  refine z_goto X d_lw_1764 (tgt := 2192) (by decide) ?_
  exact hK wx' wm' hx' hl' hy' (RelQ.of (hR.m.keep hfx hfm (by decide)) (hR.a.keep hfx hfm (by decide)) (hR.d.keep hfx hfm (by decide)) (hR.c.keep hfx hfm (by decide)) (hR.x.keep hfx hfm (by decide)) (hR.b.keep hfx hfm (by decide)) (hR.h.keep hfx hfm (by decide)) (hR.t.keep hfx hfm (by decide)) (hR.k.keep hfx hfm (by decide)))
theorem lc_38 (X : ZC p s m #[Value.ref b] meth c code 8 RL G (fun q : Nat => s.heap.size ≤ q) ret nm) (hX : va_X b L xs s s.heap) (hbl : b < s.heap.size) (hbA : ¬ s.heap.size ≤ b) (hi0 : 0 ≤ i.toInt) (hi1 : i.toInt + 10 ≤ (L : Int) ∧ L ≤ 5120) (hx : CWx G x wx) (hy : MWx G y wm) (hR : RelQ G wx wm) (hc : kc ≤ room_1.cells) (hs : ks ≤ room_1.slots) (hK : ∀ wx' wm', CWx G x wx' → wx'.length = wx.length → MWx G y wm' → RelQ G wx' wm' → Z p l e room_1 s m #[Value.ref b] below meth c 8 G (fun q : Nat => s.heap.size ≤ q) (lw_Z below #[Value.ref b] s) 2192 (lv5 b x y o i) [] (wx' ++ wm' ++ [(o, aJ G 1 f)]) kc ks) : Z p l e room_1 s m #[Value.ref b] below meth c 8 G (fun q : Nat => s.heap.size ≤ q) (lw_Z below #[Value.ref b] s) 1767 (lv5 b x y o i) [] (wx ++ wm ++ [(o, aJ G 1 f)]) kc ks := by
  refine z_aload_n X d_lw_1767 rfl 1 rfl ?_
  refine z_aload_n X d_lw_1768 rfl 0 rfl ?_
  refine z_iload X d_lw_1769 4 rfl ?_
  refine z_iconst X d_lw_1771 (v := 1) (by decide) ?_
  refine z_iadd X d_lw_1772 ?_
  refine z_sld X hX hbl hbA (lw_in hi0 hi1 (k := 1) (by decide) (by decide)) d_lw_1773 (v := xs (i + 1).toNatClampNeg) rfl ?_
  refine z_aload_n X d_lw_1774 rfl 0 rfl ?_
  refine z_iload X d_lw_1775 4 rfl ?_
  refine z_iconst X d_lw_1777 (v := 2) (by decide) ?_
  refine z_iadd X d_lw_1778 ?_
  refine z_sld X hX hbl hbA (lw_in hi0 hi1 (k := 2) (by decide) (by decide)) d_lw_1779 (v := xs (i + 2).toNatClampNeg) rfl ?_
  refine z_aload_n X d_lw_1780 rfl 0 rfl ?_
  refine z_iload X d_lw_1781 4 rfl ?_
  refine z_iconst X d_lw_1783 (v := 3) (by decide) ?_
  refine z_iadd X d_lw_1784 ?_
  refine z_sld X hX hbl hbA (lw_in hi0 hi1 (k := 3) (by decide) (by decide)) d_lw_1785 (v := xs (i + 3).toNatClampNeg) rfl ?_
  refine z_aload_n X d_lw_1786 rfl 0 rfl ?_
  refine z_iload X d_lw_1787 4 rfl ?_
  refine z_iconst X d_lw_1789 (v := 4) (by decide) ?_
  refine z_iadd X d_lw_1790 ?_
  refine z_sld X hX hbl hbA (lw_in hi0 hi1 (k := 4) (by decide) (by decide)) d_lw_1791 (v := xs (i + 4).toNatClampNeg) rfl ?_
  refine z_i2l X d_lw_1792 rfl ?_
  refine z_bipush X d_lw_1793 (v := 32) (by decide) ?_
  refine z_lshl X d_lw_1795 (v := (((xs (i + 4).toNatClampNeg).toInt64) <<< (((32 : Int32)).toInt64 &&& 63))) rfl ?_
  refine z_aload_n X d_lw_1796 rfl 0 rfl ?_
  refine z_iload X d_lw_1797 4 rfl ?_
  refine z_iconst X d_lw_1799 (v := 5) (by decide) ?_
  refine z_iadd X d_lw_1800 ?_
  refine z_sld X hX hbl hbA (lw_in hi0 hi1 (k := 5) (by decide) (by decide)) d_lw_1801 (v := xs (i + 5).toNatClampNeg) rfl ?_
  refine z_i2l X d_lw_1802 rfl ?_
  refine z_ldc2 X d_lw_1803 (v := 4294967295) cn_L_149 ?_
  refine z_land X d_lw_1806 ?_
  refine z_lor X d_lw_1807 ?_
  refine z_aload_n X d_lw_1808 rfl 0 rfl ?_
  refine z_iload X d_lw_1809 4 rfl ?_
  refine z_bipush X d_lw_1811 (v := 6) (by decide) ?_
  refine z_iadd X d_lw_1813 ?_
  refine z_sld X hX hbl hbA (lw_in hi0 hi1 (k := 6) (by decide) (by decide)) d_lw_1814 (v := xs (i + 6).toNatClampNeg) rfl ?_
  refine z_i2l X d_lw_1815 rfl ?_
  refine z_bipush X d_lw_1816 (v := 32) (by decide) ?_
  refine z_lshl X d_lw_1818 (v := (((xs (i + 6).toNatClampNeg).toInt64) <<< (((32 : Int32)).toInt64 &&& 63))) rfl ?_
  refine z_aload_n X d_lw_1819 rfl 0 rfl ?_
  refine z_iload X d_lw_1820 4 rfl ?_
  refine z_bipush X d_lw_1822 (v := 7) (by decide) ?_
  refine z_iadd X d_lw_1824 ?_
  refine z_sld X hX hbl hbA (lw_in hi0 hi1 (k := 7) (by decide) (by decide)) d_lw_1825 (v := xs (i + 7).toNatClampNeg) rfl ?_
  refine z_i2l X d_lw_1826 rfl ?_
  refine z_ldc2 X d_lw_1827 (v := 4294967295) cn_L_149 ?_
  refine z_land X d_lw_1830 ?_
  refine z_lor X d_lw_1831 ?_
  refine z_aload_n X d_lw_1832 rfl 0 rfl ?_
  refine z_iload X d_lw_1833 4 rfl ?_
  refine z_bipush X d_lw_1835 (v := 8) (by decide) ?_
  refine z_iadd X d_lw_1837 ?_
  refine z_sld X hX hbl hbA (lw_in hi0 hi1 (k := 8) (by decide) (by decide)) d_lw_1838 (v := xs (i + 8).toNatClampNeg) rfl ?_
  refine z_i2l X d_lw_1839 rfl ?_
  refine z_bipush X d_lw_1840 (v := 32) (by decide) ?_
  refine z_lshl X d_lw_1842 (v := (((xs (i + 8).toNatClampNeg).toInt64) <<< (((32 : Int32)).toInt64 &&& 63))) rfl ?_
  refine z_aload_n X d_lw_1843 rfl 0 rfl ?_
  refine z_iload X d_lw_1844 4 rfl ?_
  refine z_bipush X d_lw_1846 (v := 9) (by decide) ?_
  refine z_iadd X d_lw_1848 ?_
  refine z_sld X hX hbl hbA (lw_in hi0 hi1 (k := 9) (by decide) (by decide)) d_lw_1849 (v := xs (i + 9).toNatClampNeg) rfl ?_
  refine z_i2l X d_lw_1850 rfl ?_
  refine z_ldc2 X d_lw_1851 (v := 4294967295) cn_L_149 ?_
  refine z_land X d_lw_1854 ?_
  refine z_lor X d_lw_1855 ?_
  rw [List.append_assoc]
  refine cx_callF (k := 0) (rest := []) (As := [.int (xs (i + 1).toNatClampNeg), .int (xs (i + 2).toNatClampNeg), .int (xs (i + 3).toNatClampNeg), .long ((((((xs (i + 4).toNatClampNeg).toInt64) <<< (((32 : Int32)).toInt64 &&& 63))) ||| ((((xs (i + 5).toNatClampNeg).toInt64) &&& ((4294967295 : Int64)))))), .long ((((((xs (i + 6).toNatClampNeg).toInt64) <<< (((32 : Int32)).toInt64 &&& 63))) ||| ((((xs (i + 7).toNatClampNeg).toInt64) &&& ((4294967295 : Int64)))))), .long ((((((xs (i + 8).toNatClampNeg).toInt64) <<< (((32 : Int32)).toInt64 &&& 63))) ||| ((((xs (i + 9).toNatClampNeg).toInt64) &&& ((4294967295 : Int64))))))]) (μ := (fun k => ((Value.ref x :: [.int (xs (i + 1).toNatClampNeg), .int (xs (i + 2).toNatClampNeg), .int (xs (i + 3).toNatClampNeg), .long ((((((xs (i + 4).toNatClampNeg).toInt64) <<< (((32 : Int32)).toInt64 &&& 63))) ||| ((((xs (i + 5).toNatClampNeg).toInt64) &&& ((4294967295 : Int64)))))), .long ((((((xs (i + 6).toNatClampNeg).toInt64) <<< (((32 : Int32)).toInt64 &&& 63))) ||| ((((xs (i + 7).toNatClampNeg).toInt64) &&& ((4294967295 : Int64)))))), .long ((((((xs (i + 8).toNatClampNeg).toInt64) <<< (((32 : Int32)).toInt64 &&& 63))) ||| ((((xs (i + 9).toNatClampNeg).toInt64) &&& ((4294967295 : Int64))))))])[k]?).getD .null)) X k_L_191 (ac_X10_whose_0 l G) (by decide) (by decide) (by decide) hx (fun ad w0 he => pre_mu (C := C_X10_whose_0) (ts := [tI0, tI0, tI0, tL0, tL0, tL0]) (As := [.int (xs (i + 1).toNatClampNeg), .int (xs (i + 2).toNatClampNeg), .int (xs (i + 3).toNatClampNeg), .long ((((((xs (i + 4).toNatClampNeg).toInt64) <<< (((32 : Int32)).toInt64 &&& 63))) ||| ((((xs (i + 5).toNatClampNeg).toInt64) &&& ((4294967295 : Int64)))))), .long ((((((xs (i + 6).toNatClampNeg).toInt64) <<< (((32 : Int32)).toInt64 &&& 63))) ||| ((((xs (i + 7).toNatClampNeg).toInt64) &&& ((4294967295 : Int64)))))), .long ((((((xs (i + 8).toNatClampNeg).toInt64) <<< (((32 : Int32)).toInt64 &&& 63))) ||| ((((xs (i + 9).toNatClampNeg).toInt64) &&& ((4294967295 : Int64))))))]) rfl rfl rfl rfl ⟨fun _ => vty_i0 _, fun _ => vty_i0 _, fun _ => vty_i0 _, fun _ => vty_l0 _, fun _ => vty_l0 _, fun _ => vty_l0 _, trivial⟩ ad w0 he) rfl d_lw_1856 ⟨by decide, by decide⟩ ⟨hc, hs⟩ rfl rfl (by decide) rfl (fun r wx' hr hx' hl' hfx => ?_)
  rw [← List.append_assoc]
  rcases hr with ⟨h, -⟩ | ⟨-, v, rfl⟩ | ⟨h, -⟩
  all_goals first | (exact absurd h (by decide)) | skip
  refine z_pop X d_lw_1859 rfl ?_
  refine z_aload_n X d_lw_1860 rfl 2 rfl ?_
  refine z_aload_n X d_lw_1861 rfl 0 rfl ?_
  refine z_iload X d_lw_1862 4 rfl ?_
  refine z_iconst X d_lw_1864 (v := 1) (by decide) ?_
  refine z_iadd X d_lw_1865 ?_
  refine z_sld X hX hbl hbA (lw_in hi0 hi1 (k := 1) (by decide) (by decide)) d_lw_1866 (v := xs (i + 1).toNatClampNeg) rfl ?_
  refine z_aload_n X d_lw_1867 rfl 0 rfl ?_
  refine z_iload X d_lw_1868 4 rfl ?_
  refine z_iconst X d_lw_1870 (v := 2) (by decide) ?_
  refine z_iadd X d_lw_1871 ?_
  refine z_sld X hX hbl hbA (lw_in hi0 hi1 (k := 2) (by decide) (by decide)) d_lw_1872 (v := xs (i + 2).toNatClampNeg) rfl ?_
  refine z_aload_n X d_lw_1873 rfl 0 rfl ?_
  refine z_iload X d_lw_1874 4 rfl ?_
  refine z_iconst X d_lw_1876 (v := 3) (by decide) ?_
  refine z_iadd X d_lw_1877 ?_
  refine z_sld X hX hbl hbA (lw_in hi0 hi1 (k := 3) (by decide) (by decide)) d_lw_1878 (v := xs (i + 3).toNatClampNeg) rfl ?_
  refine z_aload_n X d_lw_1879 rfl 0 rfl ?_
  refine z_iload X d_lw_1880 4 rfl ?_
  refine z_iconst X d_lw_1882 (v := 4) (by decide) ?_
  refine z_iadd X d_lw_1883 ?_
  refine z_sld X hX hbl hbA (lw_in hi0 hi1 (k := 4) (by decide) (by decide)) d_lw_1884 (v := xs (i + 4).toNatClampNeg) rfl ?_
  refine z_i2l X d_lw_1885 rfl ?_
  refine z_bipush X d_lw_1886 (v := 32) (by decide) ?_
  refine z_lshl X d_lw_1888 (v := (((xs (i + 4).toNatClampNeg).toInt64) <<< (((32 : Int32)).toInt64 &&& 63))) rfl ?_
  refine z_aload_n X d_lw_1889 rfl 0 rfl ?_
  refine z_iload X d_lw_1890 4 rfl ?_
  refine z_iconst X d_lw_1892 (v := 5) (by decide) ?_
  refine z_iadd X d_lw_1893 ?_
  refine z_sld X hX hbl hbA (lw_in hi0 hi1 (k := 5) (by decide) (by decide)) d_lw_1894 (v := xs (i + 5).toNatClampNeg) rfl ?_
  refine z_i2l X d_lw_1895 rfl ?_
  refine z_ldc2 X d_lw_1896 (v := 4294967295) cn_L_149 ?_
  refine z_land X d_lw_1899 ?_
  refine z_lor X d_lw_1900 ?_
  refine z_aload_n X d_lw_1901 rfl 0 rfl ?_
  refine z_iload X d_lw_1902 4 rfl ?_
  refine z_bipush X d_lw_1904 (v := 6) (by decide) ?_
  refine z_iadd X d_lw_1906 ?_
  refine z_sld X hX hbl hbA (lw_in hi0 hi1 (k := 6) (by decide) (by decide)) d_lw_1907 (v := xs (i + 6).toNatClampNeg) rfl ?_
  refine z_i2l X d_lw_1908 rfl ?_
  refine z_bipush X d_lw_1909 (v := 32) (by decide) ?_
  refine z_lshl X d_lw_1911 (v := (((xs (i + 6).toNatClampNeg).toInt64) <<< (((32 : Int32)).toInt64 &&& 63))) rfl ?_
  refine z_aload_n X d_lw_1912 rfl 0 rfl ?_
  refine z_iload X d_lw_1913 4 rfl ?_
  refine z_bipush X d_lw_1915 (v := 7) (by decide) ?_
  refine z_iadd X d_lw_1917 ?_
  refine z_sld X hX hbl hbA (lw_in hi0 hi1 (k := 7) (by decide) (by decide)) d_lw_1918 (v := xs (i + 7).toNatClampNeg) rfl ?_
  refine z_i2l X d_lw_1919 rfl ?_
  refine z_ldc2 X d_lw_1920 (v := 4294967295) cn_L_149 ?_
  refine z_land X d_lw_1923 ?_
  refine z_lor X d_lw_1924 ?_
  refine z_aload_n X d_lw_1925 rfl 0 rfl ?_
  refine z_iload X d_lw_1926 4 rfl ?_
  refine z_bipush X d_lw_1928 (v := 8) (by decide) ?_
  refine z_iadd X d_lw_1930 ?_
  refine z_sld X hX hbl hbA (lw_in hi0 hi1 (k := 8) (by decide) (by decide)) d_lw_1931 (v := xs (i + 8).toNatClampNeg) rfl ?_
  refine z_i2l X d_lw_1932 rfl ?_
  refine z_bipush X d_lw_1933 (v := 32) (by decide) ?_
  refine z_lshl X d_lw_1935 (v := (((xs (i + 8).toNatClampNeg).toInt64) <<< (((32 : Int32)).toInt64 &&& 63))) rfl ?_
  refine z_aload_n X d_lw_1936 rfl 0 rfl ?_
  refine z_iload X d_lw_1937 4 rfl ?_
  refine z_bipush X d_lw_1939 (v := 9) (by decide) ?_
  refine z_iadd X d_lw_1941 ?_
  refine z_sld X hX hbl hbA (lw_in hi0 hi1 (k := 9) (by decide) (by decide)) d_lw_1942 (v := xs (i + 9).toNatClampNeg) rfl ?_
  refine z_i2l X d_lw_1943 rfl ?_
  refine z_ldc2 X d_lw_1944 (v := 4294967295) cn_L_149 ?_
  refine z_land X d_lw_1947 ?_
  refine z_lor X d_lw_1948 ?_
  refine mx_callF (k := 0) (wa := wx') (rest := []) (As := [.int (xs (i + 1).toNatClampNeg), .int (xs (i + 2).toNatClampNeg), .int (xs (i + 3).toNatClampNeg), .long ((((((xs (i + 4).toNatClampNeg).toInt64) <<< (((32 : Int32)).toInt64 &&& 63))) ||| ((((xs (i + 5).toNatClampNeg).toInt64) &&& ((4294967295 : Int64)))))), .long ((((((xs (i + 6).toNatClampNeg).toInt64) <<< (((32 : Int32)).toInt64 &&& 63))) ||| ((((xs (i + 7).toNatClampNeg).toInt64) &&& ((4294967295 : Int64)))))), .long ((((((xs (i + 8).toNatClampNeg).toInt64) <<< (((32 : Int32)).toInt64 &&& 63))) ||| ((((xs (i + 9).toNatClampNeg).toInt64) &&& ((4294967295 : Int64))))))]) (μ := (fun k => ((Value.ref y :: [.int (xs (i + 1).toNatClampNeg), .int (xs (i + 2).toNatClampNeg), .int (xs (i + 3).toNatClampNeg), .long ((((((xs (i + 4).toNatClampNeg).toInt64) <<< (((32 : Int32)).toInt64 &&& 63))) ||| ((((xs (i + 5).toNatClampNeg).toInt64) &&& ((4294967295 : Int64)))))), .long ((((((xs (i + 6).toNatClampNeg).toInt64) <<< (((32 : Int32)).toInt64 &&& 63))) ||| ((((xs (i + 7).toNatClampNeg).toInt64) &&& ((4294967295 : Int64)))))), .long ((((((xs (i + 8).toNatClampNeg).toInt64) <<< (((32 : Int32)).toInt64 &&& 63))) ||| ((((xs (i + 9).toNatClampNeg).toInt64) &&& ((4294967295 : Int64))))))])[k]?).getD .null)) X k_L_195 (ac_X11_whose_0 l G) (by decide) (by decide) hy (fun ad w0 he => pre_mu (C := C_X11_whose_0) (ts := [tI0, tI0, tI0, tL0, tL0, tL0]) (As := [.int (xs (i + 1).toNatClampNeg), .int (xs (i + 2).toNatClampNeg), .int (xs (i + 3).toNatClampNeg), .long ((((((xs (i + 4).toNatClampNeg).toInt64) <<< (((32 : Int32)).toInt64 &&& 63))) ||| ((((xs (i + 5).toNatClampNeg).toInt64) &&& ((4294967295 : Int64)))))), .long ((((((xs (i + 6).toNatClampNeg).toInt64) <<< (((32 : Int32)).toInt64 &&& 63))) ||| ((((xs (i + 7).toNatClampNeg).toInt64) &&& ((4294967295 : Int64)))))), .long ((((((xs (i + 8).toNatClampNeg).toInt64) <<< (((32 : Int32)).toInt64 &&& 63))) ||| ((((xs (i + 9).toNatClampNeg).toInt64) &&& ((4294967295 : Int64))))))]) rfl rfl rfl rfl ⟨fun _ => vty_i0 _, fun _ => vty_i0 _, fun _ => vty_i0 _, fun _ => vty_l0 _, fun _ => vty_l0 _, fun _ => vty_l0 _, trivial⟩ ad w0 he) rfl d_lw_1949 ⟨by decide, by decide⟩ ⟨hc, hs⟩ rfl rfl (Nat.le_of_ble_eq_true rfl) rfl (fun r wm' hr hy' hfm => ?_)
  rcases hr with ⟨h, -⟩ | ⟨-, v, rfl⟩ | ⟨h, -⟩
  all_goals first | (exact absurd h (by decide)) | skip
  refine z_pop X d_lw_1952 rfl ?_
  refine z_goto X d_lw_1953 (tgt := 2192) (by decide) ?_
  exact hK wx' wm' hx' hl' hy' (RelQ.of (hR.m.keep hfx hfm (by decide)) (hR.a.keep hfx hfm (by decide)) (hR.d.keep hfx hfm (by decide)) (hR.c.keep hfx hfm (by decide)) (hR.x.keep hfx hfm (by decide)) (hR.b.keep hfx hfm (by decide)) (hR.h.keep hfx hfm (by decide)) (hR.t.keep hfx hfm (by decide)) (hR.k.keep hfx hfm (by decide)))
theorem lc_39 (X : ZC p s m #[Value.ref b] meth c code 8 RL G (fun q : Nat => s.heap.size ≤ q) ret nm) (hX : va_X b L xs s s.heap) (hbl : b < s.heap.size) (hbA : ¬ s.heap.size ≤ b) (hi0 : 0 ≤ i.toInt) (hi1 : i.toInt + 10 ≤ (L : Int) ∧ L ≤ 5120) (hx : CWx G x wx) (hy : MWx G y wm) (hR : RelQ G wx wm) (hc : kc ≤ room_1.cells) (hs : ks ≤ room_1.slots) (hK : ∀ wx' wm', CWx G x wx' → wx'.length = wx.length → MWx G y wm' → RelQ G wx' wm' → Z p l e room_1 s m #[Value.ref b] below meth c 8 G (fun q : Nat => s.heap.size ≤ q) (lw_Z below #[Value.ref b] s) 2192 (lv5 b x y o i) [] (wx' ++ wm' ++ [(o, aJ G 1 f)]) kc ks) : Z p l e room_1 s m #[Value.ref b] below meth c 8 G (fun q : Nat => s.heap.size ≤ q) (lw_Z below #[Value.ref b] s) 1956 (lv5 b x y o i) [] (wx ++ wm ++ [(o, aJ G 1 f)]) kc ks := by
  refine z_aload_n X d_lw_1956 rfl 1 rfl ?_
  refine z_aload_n X d_lw_1957 rfl 0 rfl ?_
  refine z_iload X d_lw_1958 4 rfl ?_
  refine z_iconst X d_lw_1960 (v := 1) (by decide) ?_
  refine z_iadd X d_lw_1961 ?_
  refine z_sld X hX hbl hbA (lw_in hi0 hi1 (k := 1) (by decide) (by decide)) d_lw_1962 (v := xs (i + 1).toNatClampNeg) rfl ?_
  rw [List.append_assoc]
  refine cx_callF (k := 0) (rest := []) (As := [.int (xs (i + 1).toNatClampNeg)]) (μ := (fun k => ((Value.ref x :: [.int (xs (i + 1).toNatClampNeg)])[k]?).getD .null)) X k_L_196 (ac_X10_part_0 l G) (by decide) (by decide) (by decide) hx (fun ad w0 he => pre_mu (C := C_X10_part_0) (ts := [tI0]) (As := [.int (xs (i + 1).toNatClampNeg)]) rfl rfl rfl rfl ⟨fun _ => vty_i0 _, trivial⟩ ad w0 he) rfl d_lw_1963 ⟨by decide, by decide⟩ ⟨hc, hs⟩ rfl rfl (by decide) rfl (fun r wx' hr hx' hl' hfx => ?_)
  rw [← List.append_assoc]
  rcases hr with ⟨h, -⟩ | ⟨-, v, rfl⟩ | ⟨h, -⟩
  all_goals first | (exact absurd h (by decide)) | skip
  refine z_pop X d_lw_1966 rfl ?_
  refine z_aload_n X d_lw_1967 rfl 2 rfl ?_
  refine z_aload_n X d_lw_1968 rfl 0 rfl ?_
  refine z_iload X d_lw_1969 4 rfl ?_
  refine z_iconst X d_lw_1971 (v := 1) (by decide) ?_
  refine z_iadd X d_lw_1972 ?_
  refine z_sld X hX hbl hbA (lw_in hi0 hi1 (k := 1) (by decide) (by decide)) d_lw_1973 (v := xs (i + 1).toNatClampNeg) rfl ?_
  refine mx_callF (k := 0) (wa := wx') (rest := []) (As := [.int (xs (i + 1).toNatClampNeg)]) (μ := (fun k => ((Value.ref y :: [.int (xs (i + 1).toNatClampNeg)])[k]?).getD .null)) X k_L_199 (ac_X11_part_0 l G) (by decide) (by decide) hy (fun ad w0 he => pre_mu (C := C_X11_part_0) (ts := [tI0]) (As := [.int (xs (i + 1).toNatClampNeg)]) rfl rfl rfl rfl ⟨fun _ => vty_i0 _, trivial⟩ ad w0 he) rfl d_lw_1974 ⟨by decide, by decide⟩ ⟨hc, hs⟩ rfl rfl (Nat.le_of_ble_eq_true rfl) rfl (fun r wm' hr hy' hfm => ?_)
  rcases hr with ⟨h, -⟩ | ⟨-, v, rfl⟩ | ⟨h, -⟩
  all_goals first | (exact absurd h (by decide)) | skip
  refine z_pop X d_lw_1977 rfl ?_
  refine z_goto X d_lw_1978 (tgt := 2192) (by decide) ?_
  exact hK wx' wm' hx' hl' hy' (RelQ.of (hR.m.keep hfx hfm (by decide)) (hR.a.keep hfx hfm (by decide)) (hR.d.keep hfx hfm (by decide)) (hR.c.keep hfx hfm (by decide)) (hR.x.keep hfx hfm (by decide)) (hR.b.keep hfx hfm (by decide)) (hR.h.keep hfx hfm (by decide)) (hR.t.keep hfx hfm (by decide)) (hR.k.keep hfx hfm (by decide)))
theorem lc_40 (X : ZC p s m #[Value.ref b] meth c code 8 RL G (fun q : Nat => s.heap.size ≤ q) ret nm) (hX : va_X b L xs s s.heap) (hbl : b < s.heap.size) (hbA : ¬ s.heap.size ≤ b) (hi0 : 0 ≤ i.toInt) (hi1 : i.toInt + 10 ≤ (L : Int) ∧ L ≤ 5120) (hx : CWx G x wx) (hy : MWx G y wm) (hR : RelQ G wx wm) (hc : kc ≤ room_1.cells) (hs : ks ≤ room_1.slots) (hK : ∀ wx' wm', CWx G x wx' → wx'.length = wx.length → MWx G y wm' → RelQ G wx' wm' → Z p l e room_1 s m #[Value.ref b] below meth c 8 G (fun q : Nat => s.heap.size ≤ q) (lw_Z below #[Value.ref b] s) 2192 (lv5 b x y o i) [] (wx' ++ wm' ++ [(o, aJ G 1 f)]) kc ks) : Z p l e room_1 s m #[Value.ref b] below meth c 8 G (fun q : Nat => s.heap.size ≤ q) (lw_Z below #[Value.ref b] s) 1981 (lv5 b x y o i) [] (wx ++ wm ++ [(o, aJ G 1 f)]) kc ks := by
  refine z_aload_n X d_lw_1981 rfl 1 rfl ?_
  refine z_aload_n X d_lw_1982 rfl 0 rfl ?_
  refine z_iload X d_lw_1983 4 rfl ?_
  refine z_iconst X d_lw_1985 (v := 1) (by decide) ?_
  refine z_iadd X d_lw_1986 ?_
  refine z_sld X hX hbl hbA (lw_in hi0 hi1 (k := 1) (by decide) (by decide)) d_lw_1987 (v := xs (i + 1).toNatClampNeg) rfl ?_
  refine z_aload_n X d_lw_1988 rfl 0 rfl ?_
  refine z_iload X d_lw_1989 4 rfl ?_
  refine z_iconst X d_lw_1991 (v := 2) (by decide) ?_
  refine z_iadd X d_lw_1992 ?_
  refine z_sld X hX hbl hbA (lw_in hi0 hi1 (k := 2) (by decide) (by decide)) d_lw_1993 (v := xs (i + 2).toNatClampNeg) rfl ?_
  refine z_i2l X d_lw_1994 rfl ?_
  refine z_bipush X d_lw_1995 (v := 32) (by decide) ?_
  refine z_lshl X d_lw_1997 (v := (((xs (i + 2).toNatClampNeg).toInt64) <<< (((32 : Int32)).toInt64 &&& 63))) rfl ?_
  refine z_aload_n X d_lw_1998 rfl 0 rfl ?_
  refine z_iload X d_lw_1999 4 rfl ?_
  refine z_iconst X d_lw_2001 (v := 3) (by decide) ?_
  refine z_iadd X d_lw_2002 ?_
  refine z_sld X hX hbl hbA (lw_in hi0 hi1 (k := 3) (by decide) (by decide)) d_lw_2003 (v := xs (i + 3).toNatClampNeg) rfl ?_
  refine z_i2l X d_lw_2004 rfl ?_
  refine z_ldc2 X d_lw_2005 (v := 4294967295) cn_L_149 ?_
  refine z_land X d_lw_2008 ?_
  refine z_lor X d_lw_2009 ?_
  rw [List.append_assoc]
  refine cx_callF (k := 0) (rest := []) (As := [.int (xs (i + 1).toNatClampNeg), .long ((((((xs (i + 2).toNatClampNeg).toInt64) <<< (((32 : Int32)).toInt64 &&& 63))) ||| ((((xs (i + 3).toNatClampNeg).toInt64) &&& ((4294967295 : Int64))))))]) (μ := (fun k => ((Value.ref x :: [.int (xs (i + 1).toNatClampNeg), .long ((((((xs (i + 2).toNatClampNeg).toInt64) <<< (((32 : Int32)).toInt64 &&& 63))) ||| ((((xs (i + 3).toNatClampNeg).toInt64) &&& ((4294967295 : Int64))))))])[k]?).getD .null)) X k_L_200 (ac_X10_buckets_0 l G) (by decide) (by decide) (by decide) hx (fun ad w0 he => pre_mu (C := C_X10_buckets_0) (ts := [tI0, tL0]) (As := [.int (xs (i + 1).toNatClampNeg), .long ((((((xs (i + 2).toNatClampNeg).toInt64) <<< (((32 : Int32)).toInt64 &&& 63))) ||| ((((xs (i + 3).toNatClampNeg).toInt64) &&& ((4294967295 : Int64))))))]) rfl rfl rfl rfl ⟨fun _ => vty_i0 _, fun _ => vty_l0 _, trivial⟩ ad w0 he) rfl d_lw_2010 ⟨by decide, by decide⟩ ⟨hc, hs⟩ rfl rfl (by decide) rfl (fun r wx' hr hx' hl' hfx => ?_)
  rw [← List.append_assoc]
  rcases hr with ⟨h, -⟩ | ⟨-, v, rfl⟩ | ⟨h, -⟩
  all_goals first | (exact absurd h (by decide)) | skip
  refine z_pop X d_lw_2013 rfl ?_
  refine z_aload_n X d_lw_2014 rfl 2 rfl ?_
  refine z_aload_n X d_lw_2015 rfl 0 rfl ?_
  refine z_iload X d_lw_2016 4 rfl ?_
  refine z_iconst X d_lw_2018 (v := 1) (by decide) ?_
  refine z_iadd X d_lw_2019 ?_
  refine z_sld X hX hbl hbA (lw_in hi0 hi1 (k := 1) (by decide) (by decide)) d_lw_2020 (v := xs (i + 1).toNatClampNeg) rfl ?_
  refine z_aload_n X d_lw_2021 rfl 0 rfl ?_
  refine z_iload X d_lw_2022 4 rfl ?_
  refine z_iconst X d_lw_2024 (v := 2) (by decide) ?_
  refine z_iadd X d_lw_2025 ?_
  refine z_sld X hX hbl hbA (lw_in hi0 hi1 (k := 2) (by decide) (by decide)) d_lw_2026 (v := xs (i + 2).toNatClampNeg) rfl ?_
  refine z_i2l X d_lw_2027 rfl ?_
  refine z_bipush X d_lw_2028 (v := 32) (by decide) ?_
  refine z_lshl X d_lw_2030 (v := (((xs (i + 2).toNatClampNeg).toInt64) <<< (((32 : Int32)).toInt64 &&& 63))) rfl ?_
  refine z_aload_n X d_lw_2031 rfl 0 rfl ?_
  refine z_iload X d_lw_2032 4 rfl ?_
  refine z_iconst X d_lw_2034 (v := 3) (by decide) ?_
  refine z_iadd X d_lw_2035 ?_
  refine z_sld X hX hbl hbA (lw_in hi0 hi1 (k := 3) (by decide) (by decide)) d_lw_2036 (v := xs (i + 3).toNatClampNeg) rfl ?_
  refine z_i2l X d_lw_2037 rfl ?_
  refine z_ldc2 X d_lw_2038 (v := 4294967295) cn_L_149 ?_
  refine z_land X d_lw_2041 ?_
  refine z_lor X d_lw_2042 ?_
  refine mx_callF (k := 0) (wa := wx') (rest := []) (As := [.int (xs (i + 1).toNatClampNeg), .long ((((((xs (i + 2).toNatClampNeg).toInt64) <<< (((32 : Int32)).toInt64 &&& 63))) ||| ((((xs (i + 3).toNatClampNeg).toInt64) &&& ((4294967295 : Int64))))))]) (μ := (fun k => ((Value.ref y :: [.int (xs (i + 1).toNatClampNeg), .long ((((((xs (i + 2).toNatClampNeg).toInt64) <<< (((32 : Int32)).toInt64 &&& 63))) ||| ((((xs (i + 3).toNatClampNeg).toInt64) &&& ((4294967295 : Int64))))))])[k]?).getD .null)) X k_L_203 (ac_buckets l G) (by decide) (by decide) hy (fun ad w0 he => pre_mu (C := C_buckets) (ts := [tI0, tL0]) (As := [.int (xs (i + 1).toNatClampNeg), .long ((((((xs (i + 2).toNatClampNeg).toInt64) <<< (((32 : Int32)).toInt64 &&& 63))) ||| ((((xs (i + 3).toNatClampNeg).toInt64) &&& ((4294967295 : Int64))))))]) rfl rfl rfl rfl ⟨fun _ => vty_i0 _, fun _ => vty_l0 _, trivial⟩ ad w0 he) rfl d_lw_2043 ⟨by decide, by decide⟩ ⟨hc, hs⟩ rfl rfl (Nat.le_of_ble_eq_true rfl) rfl (fun r wm' hr hy' hfm => ?_)
  rcases hr with ⟨h, -⟩ | ⟨-, v, rfl⟩ | ⟨h, -⟩
  all_goals first | (exact absurd h (by decide)) | skip
  refine z_pop X d_lw_2046 rfl ?_
  refine z_goto X d_lw_2047 (tgt := 2192) (by decide) ?_
  exact hK wx' wm' hx' hl' hy' (RelQ.of (hR.m.keep hfx hfm (by decide)) (hR.a.keep hfx hfm (by decide)) (hR.d.keep hfx hfm (by decide)) (hR.c.keep hfx hfm (by decide)) (hR.x.keep hfx hfm (by decide)) (hR.b.keep hfx hfm (by decide)) (hR.h.keep hfx hfm (by decide)) (hR.t.keep hfx hfm (by decide)) (hR.k.keep hfx hfm (by decide)))
theorem lc_41 (X : ZC p s m #[Value.ref b] meth c code 8 RL G (fun q : Nat => s.heap.size ≤ q) ret nm) (hX : va_X b L xs s s.heap) (hbl : b < s.heap.size) (hbA : ¬ s.heap.size ≤ b) (hi0 : 0 ≤ i.toInt) (hi1 : i.toInt + 10 ≤ (L : Int) ∧ L ≤ 5120) (hx : CWx G x wx) (hy : MWx G y wm) (hR : RelQ G wx wm) (hc : kc ≤ room_1.cells) (hs : ks ≤ room_1.slots) (hK : ∀ wx' wm', CWx G x wx' → wx'.length = wx.length → MWx G y wm' → RelQ G wx' wm' → Z p l e room_1 s m #[Value.ref b] below meth c 8 G (fun q : Nat => s.heap.size ≤ q) (lw_Z below #[Value.ref b] s) 2192 (lv5 b x y o i) [] (wx' ++ wm' ++ [(o, aJ G 1 f)]) kc ks) : Z p l e room_1 s m #[Value.ref b] below meth c 8 G (fun q : Nat => s.heap.size ≤ q) (lw_Z below #[Value.ref b] s) 2050 (lv5 b x y o i) [] (wx ++ wm ++ [(o, aJ G 1 f)]) kc ks := by
  refine z_aload_n X d_lw_2050 rfl 1 rfl ?_
  rw [List.append_assoc]
  refine cx_callF (k := 1) (rest := []) (As := []) (μ := (fun k => ((Value.ref x :: [])[k]?).getD .null)) X k_L_204 (ac_X10_cogs_0 l G) (by decide) (by decide) (by decide) hx (fun ad w0 he => pre_mu (C := C_X10_cogs_0) (ts := []) (As := []) rfl rfl rfl rfl trivial ad w0 he) rfl d_lw_2051 ⟨by decide, by decide⟩ ⟨hc, hs⟩ rfl rfl (by decide) rfl (fun r wx' hr hx' hl' hfx => ?_)
  rw [← List.append_assoc]
  rcases hr with ⟨h, -⟩ | ⟨h, -⟩ | ⟨-, v, rfl⟩
  all_goals first | (exact absurd h (by decide)) | skip
  refine z_pop2 X d_lw_2054 rfl ?_
  refine z_aload_n X d_lw_2055 rfl 2 rfl ?_
  refine mx_callF (k := 1) (wa := wx') (rest := []) (As := []) (μ := (fun k => ((Value.ref y :: [])[k]?).getD .null)) X k_L_207 (ac_X11_cogs_0 l G) (by decide) (by decide) hy (fun ad w0 he => pre_mu (C := C_X11_cogs_0) (ts := []) (As := []) rfl rfl rfl rfl trivial ad w0 he) rfl d_lw_2056 ⟨by decide, by decide⟩ ⟨hc, hs⟩ rfl rfl (Nat.le_of_ble_eq_true rfl) rfl (fun r wm' hr hy' hfm => ?_)
  rcases hr with ⟨h, -⟩ | ⟨h, -⟩ | ⟨-, v, rfl⟩
  all_goals first | (exact absurd h (by decide)) | skip
  refine z_pop2 X d_lw_2059 rfl ?_
  refine z_goto X d_lw_2060 (tgt := 2192) (by decide) ?_
  exact hK wx' wm' hx' hl' hy' (RelQ.of (hR.m.keep hfx hfm (by decide)) (hR.a.keep hfx hfm (by decide)) (hR.d.keep hfx hfm (by decide)) (hR.c.keep hfx hfm (by decide)) (hR.x.keep hfx hfm (by decide)) (hR.b.keep hfx hfm (by decide)) (hR.h.keep hfx hfm (by decide)) (hR.t.keep hfx hfm (by decide)) (hR.k.keep hfx hfm (by decide)))
theorem lc_42 (X : ZC p s m #[Value.ref b] meth c code 8 RL G (fun q : Nat => s.heap.size ≤ q) ret nm) (hX : va_X b L xs s s.heap) (hbl : b < s.heap.size) (hbA : ¬ s.heap.size ≤ b) (hi0 : 0 ≤ i.toInt) (hi1 : i.toInt + 10 ≤ (L : Int) ∧ L ≤ 5120) (hx : CWx G x wx) (hy : MWx G y wm) (hR : RelQ G wx wm) (hc : kc ≤ room_1.cells) (hs : ks ≤ room_1.slots) (hK : ∀ wx' wm', CWx G x wx' → wx'.length = wx.length → MWx G y wm' → RelQ G wx' wm' → Z p l e room_1 s m #[Value.ref b] below meth c 8 G (fun q : Nat => s.heap.size ≤ q) (lw_Z below #[Value.ref b] s) 2192 (lv5 b x y o i) [] (wx' ++ wm' ++ [(o, aJ G 1 f)]) kc ks) : Z p l e room_1 s m #[Value.ref b] below meth c 8 G (fun q : Nat => s.heap.size ≤ q) (lw_Z below #[Value.ref b] s) 2063 (lv5 b x y o i) [] (wx ++ wm ++ [(o, aJ G 1 f)]) kc ks := by
  refine z_aload_n X d_lw_2063 rfl 1 rfl ?_
  rw [List.append_assoc]
  refine cx_callF (k := 1) (rest := []) (As := []) (μ := (fun k => ((Value.ref x :: [])[k]?).getD .null)) X k_L_208 (ac_X10_order_0 l G) (by decide) (by decide) (by decide) hx (fun ad w0 he => pre_mu (C := C_X10_order_0) (ts := []) (As := []) rfl rfl rfl rfl trivial ad w0 he) rfl d_lw_2064 ⟨by decide, by decide⟩ ⟨hc, hs⟩ rfl rfl (by decide) rfl (fun r wx' hr hx' hl' hfx => ?_)
  rw [← List.append_assoc]
  rcases hr with ⟨h, -⟩ | ⟨h, -⟩ | ⟨-, v, rfl⟩
  all_goals first | (exact absurd h (by decide)) | skip
  refine z_pop2 X d_lw_2067 rfl ?_
  refine z_aload_n X d_lw_2068 rfl 2 rfl ?_
  refine mx_callF (k := 1) (wa := wx') (rest := []) (As := []) (μ := (fun k => ((Value.ref y :: [])[k]?).getD .null)) X k_L_211 (ac_X11_order_0 l G) (by decide) (by decide) hy (fun ad w0 he => pre_mu (C := C_X11_order_0) (ts := []) (As := []) rfl rfl rfl rfl trivial ad w0 he) rfl d_lw_2069 ⟨by decide, by decide⟩ ⟨hc, hs⟩ rfl rfl (Nat.le_of_ble_eq_true rfl) rfl (fun r wm' hr hy' hfm => ?_)
  rcases hr with ⟨h, -⟩ | ⟨h, -⟩ | ⟨-, v, rfl⟩
  all_goals first | (exact absurd h (by decide)) | skip
  refine z_pop2 X d_lw_2072 rfl ?_
  refine z_goto X d_lw_2073 (tgt := 2192) (by decide) ?_
  exact hK wx' wm' hx' hl' hy' (RelQ.of (hR.m.keep hfx hfm (by decide)) (hR.a.keep hfx hfm (by decide)) (hR.d.keep hfx hfm (by decide)) (hR.c.keep hfx hfm (by decide)) (hR.x.keep hfx hfm (by decide)) (hR.b.keep hfx hfm (by decide)) (hR.h.keep hfx hfm (by decide)) (hR.t.keep hfx hfm (by decide)) (hR.k.keep hfx hfm (by decide)))
theorem lc_43 (X : ZC p s m #[Value.ref b] meth c code 8 RL G (fun q : Nat => s.heap.size ≤ q) ret nm) (hX : va_X b L xs s s.heap) (hbl : b < s.heap.size) (hbA : ¬ s.heap.size ≤ b) (hi0 : 0 ≤ i.toInt) (hi1 : i.toInt + 10 ≤ (L : Int) ∧ L ≤ 5120) (hx : CWx G x wx) (hy : MWx G y wm) (hR : RelQ G wx wm) (hc : kc ≤ room_1.cells) (hs : ks ≤ room_1.slots) (hK : ∀ wx' wm', CWx G x wx' → wx'.length = wx.length → MWx G y wm' → RelQ G wx' wm' → Z p l e room_1 s m #[Value.ref b] below meth c 8 G (fun q : Nat => s.heap.size ≤ q) (lw_Z below #[Value.ref b] s) 2192 (lv5 b x y o i) [] (wx' ++ wm' ++ [(o, aJ G 1 f)]) kc ks) : Z p l e room_1 s m #[Value.ref b] below meth c 8 G (fun q : Nat => s.heap.size ≤ q) (lw_Z below #[Value.ref b] s) 2076 (lv5 b x y o i) [] (wx ++ wm ++ [(o, aJ G 1 f)]) kc ks := by
  refine z_aload_n X d_lw_2076 rfl 1 rfl ?_
  rw [List.append_assoc]
  refine cx_callF (k := 0) (rest := []) (As := []) (μ := (fun k => ((Value.ref x :: [])[k]?).getD .null)) X k_L_212 (ac_X10_round_0 l G) (by decide) (by decide) (by decide) hx (fun ad w0 he => pre_mu (C := C_X10_round_0) (ts := []) (As := []) rfl rfl rfl rfl trivial ad w0 he) rfl d_lw_2077 ⟨by decide, by decide⟩ ⟨hc, hs⟩ rfl rfl (by decide) rfl (fun r wx' hr hx' hl' hfx => ?_)
  rw [← List.append_assoc]
  rcases hr with ⟨h, -⟩ | ⟨-, v, rfl⟩ | ⟨h, -⟩
  all_goals first | (exact absurd h (by decide)) | skip
  refine z_pop X d_lw_2080 rfl ?_
  refine z_aload_n X d_lw_2081 rfl 2 rfl ?_
  refine mx_callF (k := 0) (wa := wx') (rest := []) (As := []) (μ := (fun k => ((Value.ref y :: [])[k]?).getD .null)) X k_L_215 (ac_round l G) (by decide) (by decide) hy (fun ad w0 he => pre_mu (C := C_round) (ts := []) (As := []) rfl rfl rfl rfl trivial ad w0 he) rfl d_lw_2082 ⟨by decide, by decide⟩ ⟨hc, hs⟩ rfl rfl (Nat.le_of_ble_eq_true rfl) rfl (fun r wm' hr hy' hfm => ?_)
  rcases hr with ⟨h, -⟩ | ⟨-, v, rfl⟩ | ⟨h, -⟩
  all_goals first | (exact absurd h (by decide)) | skip
  refine z_pop X d_lw_2085 rfl ?_
  refine z_goto X d_lw_2086 (tgt := 2192) (by decide) ?_
  exact hK wx' wm' hx' hl' hy' (RelQ.of (hR.m.keep hfx hfm (by decide)) (hR.a.keep hfx hfm (by decide)) (hR.d.keep hfx hfm (by decide)) (hR.c.keep hfx hfm (by decide)) (hR.x.keep hfx hfm (by decide)) (hR.b.keep hfx hfm (by decide)) (hR.h.keep hfx hfm (by decide)) (hR.t.keep hfx hfm (by decide)) (hR.k.keep hfx hfm (by decide)))
theorem lc_44 (X : ZC p s m #[Value.ref b] meth c code 8 RL G (fun q : Nat => s.heap.size ≤ q) ret nm) (hX : va_X b L xs s s.heap) (hbl : b < s.heap.size) (hbA : ¬ s.heap.size ≤ b) (hi0 : 0 ≤ i.toInt) (hi1 : i.toInt + 10 ≤ (L : Int) ∧ L ≤ 5120) (hx : CWx G x wx) (hy : MWx G y wm) (hR : RelQ G wx wm) (hc : kc ≤ room_1.cells) (hs : ks ≤ room_1.slots) (hK : ∀ wx' wm', CWx G x wx' → wx'.length = wx.length → MWx G y wm' → RelQ G wx' wm' → Z p l e room_1 s m #[Value.ref b] below meth c 8 G (fun q : Nat => s.heap.size ≤ q) (lw_Z below #[Value.ref b] s) 2192 (lv5 b x y o i) [] (wx' ++ wm' ++ [(o, aJ G 1 f)]) kc ks) : Z p l e room_1 s m #[Value.ref b] below meth c 8 G (fun q : Nat => s.heap.size ≤ q) (lw_Z below #[Value.ref b] s) 2089 (lv5 b x y o i) [] (wx ++ wm ++ [(o, aJ G 1 f)]) kc ks := by
  obtain ⟨n, h9, s9, c9, f9, g9, ⟨n0, n1⟩, rc9, e9, ⟨hn1, hn2⟩, ⟨a2, b2⟩, ⟨a3, b3⟩, ⟨a4, b4⟩, a5, b5⟩ := id hR.m
  obtain ⟨hh9, hq, hg, hr, x1, x2, x3, x4, x5, x6, x7⟩ := id hR.h
  obtain rfl := some_int (a2.symm.trans x1)
  obtain ⟨ha0, sa0, ca0, ⟨eh1, es1, ec1⟩, ⟨pq, pg, pa, pb, pe⟩, ⟨rq, rg, ra, rb, re⟩, ⟨fq, fg, fa, fb, fe⟩, ⟨oq, og, oa, ob1, oe⟩, ⟨wq, wg, wa1, wb1, we⟩⟩ := id hR.a
  obtain rfl := some_int (a2.symm.trans eh1)
  obtain rfl := some_int (a3.symm.trans es1)
  obtain rfl := some_int (a4.symm.trans ec1)
  obtain ⟨tq, tX9, tY9, t1, t2, t3, t4, t5⟩ := id hR.t
  obtain rfl := arrinj (ra.symm.trans x4)
  obtain ⟨hk9, rk9, bq, kq, kh1, kh2, kh3, kh4, kz⟩ := id hR.k
  obtain rfl := some_int (a2.symm.trans kh1)
  obtain rfl := arrinj (ra.symm.trans kh2)
  refine z_aload_n X d_lw_2089 rfl 1 rfl ?_
  refine z_aload_n X d_lw_2090 rfl 0 rfl ?_
  refine z_iload X d_lw_2091 4 rfl ?_
  refine z_iconst X d_lw_2093 (v := 1) (by decide) ?_
  refine z_iadd X d_lw_2094 ?_
  refine z_sld X hX hbl hbA (lw_in hi0 hi1 (k := 1) (by decide) (by decide)) d_lw_2095 (v := xs (i + 1).toNatClampNeg) rfl ?_
  rcases (by omega : (xs (i + 1).toNatClampNeg).toInt ≤ -1 ∨ 3 ≤ (xs (i + 1).toNatClampNeg).toInt ∨ (xs (i + 1).toNatClampNeg).toInt = 0 ∨ (xs (i + 1).toNatClampNeg).toInt = 1 ∨ (xs (i + 1).toNatClampNeg).toInt = 2) with ha | ha | ha | ha | ha
  · skip
    rw [List.append_assoc]
    refine cx_callP (rest := []) (As := [.int (xs (i + 1).toNatClampNeg)]) (μ := (fun k => ((Value.ref x :: [.int (xs (i + 1).toNatClampNeg)])[k]?).getD .null)) X k_L_216 (ac_k_X10_keep_o0 l G) (by decide) hx (fun ad w0 he hag => pre_mu (C := C_k_X10_keep_o0) (ts := [(0, -2147483648, -1)]) (As := [.int (xs (i + 1).toNatClampNeg)]) rfl rfl rfl rfl ⟨fun _ => vty_i (i32_lo _) (by omega), trivial⟩ ad w0 he) rfl d_lw_2096 ⟨by decide, by decide⟩ ⟨hc, hs⟩ rfl rfl (by decide) rfl (fun ad r wx' hz hx' hl' => ?_)
    rw [← List.append_assoc]
    have hfx := pz_fx hz
    obtain ⟨v, ν, rfl, v0, v1, e50, eA, eF, hF, hL⟩ := pz_a hz rfl rfl rfl
    refine z_pop X d_lw_2099 rfl ?_
    refine z_aload_n X d_lw_2100 rfl 2 rfl ?_
    refine z_aload_n X d_lw_2101 rfl 0 rfl ?_
    refine z_iload X d_lw_2102 4 rfl ?_
    refine z_iconst X d_lw_2104 (v := 1) (by decide) ?_
    refine z_iadd X d_lw_2105 ?_
    refine z_sld X hX hbl hbA (lw_in hi0 hi1 (k := 1) (by decide) (by decide)) d_lw_2106 (v := xs (i + 1).toNatClampNeg) rfl ?_
    refine mx_callP (wa := wx') (rest := []) (As := [.int (xs (i + 1).toNatClampNeg)]) (μ := (fun k => ((Value.ref y :: [.int (xs (i + 1).toNatClampNeg)])[k]?).getD .null)) X k_L_219 (ac_X11_keep_0 l G) hy (fun ad he => pre_mu (C := C_X11_keep_0) (ts := [(0, -2147483648, -1)]) (As := [.int (xs (i + 1).toNatClampNeg)]) rfl rfl rfl rfl ⟨fun _ => vty_i (i32_lo _) (by omega), trivial⟩ ad wm he) rfl d_lw_2107 ⟨by decide, by decide⟩ ⟨hc, hs⟩ rfl rfl (Nat.le_of_ble_eq_true rfl) rfl (fun ad2 r wm' hz2 hy' => ?_)
    have hfm := pz_fx hz2
    obtain ⟨v2, ν2, rfl, w0, w1, f50, fA, fF, hF2, hL2⟩ := pz_a hz2 rfl rfl rfl
    have hR' : RelQ G wx' wm' := RelQ.of (hR.m.keep hfx hfm (by decide)) (hR.a.keep hfx hfm (by decide)) (hR.d.keep hfx hfm (by decide)) (hR.c.keep hfx hfm (by decide)) (hR.x.keep hfx hfm (by decide)) (hR.b.keep hfx hfm (by decide)) (hR.h.keep hfx hfm (by decide)) (hR.t.keep hfx hfm (by decide)) (hR.k.keep hfx hfm (by decide))
    refine z_pop X d_lw_2110 rfl ?_
    refine z_goto X d_lw_2111 (tgt := 2192) (by decide) ?_
    exact hK wx' wm' hx' hl' hy' hR'
  · skip
    rw [List.append_assoc]
    refine cx_callP (rest := []) (As := [.int (xs (i + 1).toNatClampNeg)]) (μ := (fun k => ((Value.ref x :: [.int (xs (i + 1).toNatClampNeg)])[k]?).getD .null)) X k_L_216 (ac_k_X10_keep_o1 l G) (by decide) hx (fun ad w0 he hag => pre_mu (C := C_k_X10_keep_o1) (ts := [(0, 3, 2147483647)]) (As := [.int (xs (i + 1).toNatClampNeg)]) rfl rfl rfl rfl ⟨fun _ => vty_i (by omega) (i32_hi _), trivial⟩ ad w0 he) rfl d_lw_2096 ⟨by decide, by decide⟩ ⟨hc, hs⟩ rfl rfl (by decide) rfl (fun ad r wx' hz hx' hl' => ?_)
    rw [← List.append_assoc]
    have hfx := pz_fx hz
    obtain ⟨v, ν, rfl, v0, v1, e50, eA, eF, hF, hL⟩ := pz_a hz rfl rfl rfl
    refine z_pop X d_lw_2099 rfl ?_
    refine z_aload_n X d_lw_2100 rfl 2 rfl ?_
    refine z_aload_n X d_lw_2101 rfl 0 rfl ?_
    refine z_iload X d_lw_2102 4 rfl ?_
    refine z_iconst X d_lw_2104 (v := 1) (by decide) ?_
    refine z_iadd X d_lw_2105 ?_
    refine z_sld X hX hbl hbA (lw_in hi0 hi1 (k := 1) (by decide) (by decide)) d_lw_2106 (v := xs (i + 1).toNatClampNeg) rfl ?_
    refine mx_callP (wa := wx') (rest := []) (As := [.int (xs (i + 1).toNatClampNeg)]) (μ := (fun k => ((Value.ref y :: [.int (xs (i + 1).toNatClampNeg)])[k]?).getD .null)) X k_L_219 (ac_X11_keep_4 l G) hy (fun ad he => pre_mu (C := C_X11_keep_4) (ts := [(0, 3, 2147483647)]) (As := [.int (xs (i + 1).toNatClampNeg)]) rfl rfl rfl rfl ⟨fun _ => vty_i (by omega) (i32_hi _), trivial⟩ ad wm he) rfl d_lw_2107 ⟨by decide, by decide⟩ ⟨hc, hs⟩ rfl rfl (Nat.le_of_ble_eq_true rfl) rfl (fun ad2 r wm' hz2 hy' => ?_)
    have hfm := pz_fx hz2
    obtain ⟨v2, ν2, rfl, w0, w1, f50, fA, fF, hF2, hL2⟩ := pz_a hz2 rfl rfl rfl
    have hR' : RelQ G wx' wm' := RelQ.of (hR.m.keep hfx hfm (by decide)) (hR.a.keep hfx hfm (by decide)) (hR.d.keep hfx hfm (by decide)) (hR.c.keep hfx hfm (by decide)) (hR.x.keep hfx hfm (by decide)) (hR.b.keep hfx hfm (by decide)) (hR.h.keep hfx hfm (by decide)) (hR.t.keep hfx hfm (by decide)) (hR.k.keep hfx hfm (by decide))
    refine z_pop X d_lw_2110 rfl ?_
    refine z_goto X d_lw_2111 (tgt := 2192) (by decide) ?_
    exact hK wx' wm' hx' hl' hy' hR'
  · skip
    have hv : xs (i + 1).toNatClampNeg = 0 := Int32.toInt_inj.mp (by have z : (0 : Int32).toInt = 0 := (by decide); omega)
    rw [List.append_assoc]
    refine cx_callG (rm := { frames := 3, cells := 0, slots := 0, locals := 68 }) (m0 := C_k_X10_keep_0.2.2.2.2.1) (Ψ := (fun r w1 => (∃ v : Int32, r = some (.int v) ∧ v = 1) ∧ fget w1 46 0 = some (.int 1) ∧ CQ G w1 47 16 hq ∧ CQ G w1 48 8 tq)) (rest := []) (As := [.int (xs (i + 1).toNatClampNeg)]) X k_L_216 (fun ad w0 hW hag => (by rw [hv]; exact ac_kqx0 l G hW ((hag 10 0 (by decide)).trans x2) ((hag 105 0 (by decide)).trans t1))) ⟨rfl, rfl⟩ (by decide) (fun r w1 wc hl h => ⟨h.1, by rw [fget_app (by omega)]; exact h.2.1, h.2.2.1.app (by omega), h.2.2.2.app (by omega)⟩) hx d_lw_2096 ⟨by decide, by decide⟩ ⟨hc, hs⟩ rfl rfl (by decide) rfl (fun r wx' hz hx' hl' hfx => ?_)
    rw [← List.append_assoc]
    obtain ⟨v, rfl⟩ := (hz.1.elim fun v9 h => ⟨v9, h.1⟩ : ∃ v : Int32, r = some (Value.int v))
    refine z_pop X d_lw_2099 rfl ?_
    refine z_aload_n X d_lw_2100 rfl 2 rfl ?_
    refine z_aload_n X d_lw_2101 rfl 0 rfl ?_
    refine z_iload X d_lw_2102 4 rfl ?_
    refine z_iconst X d_lw_2104 (v := 1) (by decide) ?_
    refine z_iadd X d_lw_2105 ?_
    refine z_sld X hX hbl hbA (lw_in hi0 hi1 (k := 1) (by decide) (by decide)) d_lw_2106 (v := xs (i + 1).toNatClampNeg) rfl ?_
    refine mx_callG (rm := { frames := 1, cells := 0, slots := 0, locals := 25 }) (m0 := C_X11_keep_1.2.2.2.2.1) (Ψ := KpQ G 0 h9.toInt bq kq hg tX9 tY9) (wa := wx') (rest := []) (As := [.int (xs (i + 1).toNatClampNeg)]) X k_L_219 (fun ad hW => ac_kqm0 l G hW ha b2 kh3 kh4 x3 t2 t3) ⟨rfl, rfl⟩ hy d_lw_2107 ⟨by decide, by decide⟩ ⟨hc, hs⟩ rfl rfl (Nat.le_of_ble_eq_true rfl) rfl (fun r wm' hz2 hy' hfm => ?_)
    obtain ⟨v2, rfl⟩ := (⟨_, hz2.1⟩ : ∃ v : Int32, r = some (Value.int v))
    obtain ⟨ev0, hM'⟩ := (⟨trivial, RelKh.kp hR.k hfx (i := 0) (by decide) ⟨fun j hj hne => by rcases (by omega : j = 0 ∨ j = 1 ∨ j = 2) with rfl | rfl | rfl <;> first | exact absurd rfl hne | decide, by decide, by decide⟩ a2 ra kh3 kh4 hz.2 hz2 x5 x6 x7 t4 t5⟩ : True ∧ RelKh G wx' wm')
    have hR' : RelQ G wx' wm' := RelQ.of (hR.m.keep hfx hfm (by decide)) (hR.a.keep hfx hfm (by decide)) (hR.d.keep hfx hfm (by decide)) (hR.c.keep hfx hfm (by decide)) (hR.x.keep hfx hfm (by decide)) (hR.b.keep hfx hfm (by decide)) (hR.h.keep hfx hfm (by decide)) (hR.t.keep hfx hfm (by decide)) (hM')
    refine z_pop X d_lw_2110 rfl ?_
    refine z_goto X d_lw_2111 (tgt := 2192) (by decide) ?_
    exact hK wx' wm' hx' hl' hy' hR'
  · skip
    have hv : xs (i + 1).toNatClampNeg = 1 := Int32.toInt_inj.mp (by have z : (1 : Int32).toInt = 1 := (by decide); omega)
    rw [List.append_assoc]
    refine cx_callG (rm := { frames := 3, cells := 0, slots := 0, locals := 68 }) (m0 := C_k_X10_keep_1.2.2.2.2.1) (Ψ := (fun r w1 => (∃ v : Int32, r = some (.int v) ∧ v = 1) ∧ fget w1 65 0 = some (.int 1) ∧ CQ G w1 66 16 hq ∧ CQ G w1 67 8 tq)) (rest := []) (As := [.int (xs (i + 1).toNatClampNeg)]) X k_L_216 (fun ad w0 hW hag => (by rw [hv]; exact ac_kqx1 l G hW ((hag 10 0 (by decide)).trans x2) ((hag 105 0 (by decide)).trans t1))) ⟨rfl, rfl⟩ (by decide) (fun r w1 wc hl h => ⟨h.1, by rw [fget_app (by omega)]; exact h.2.1, h.2.2.1.app (by omega), h.2.2.2.app (by omega)⟩) hx d_lw_2096 ⟨by decide, by decide⟩ ⟨hc, hs⟩ rfl rfl (by decide) rfl (fun r wx' hz hx' hl' hfx => ?_)
    rw [← List.append_assoc]
    obtain ⟨v, rfl⟩ := (hz.1.elim fun v9 h => ⟨v9, h.1⟩ : ∃ v : Int32, r = some (Value.int v))
    refine z_pop X d_lw_2099 rfl ?_
    refine z_aload_n X d_lw_2100 rfl 2 rfl ?_
    refine z_aload_n X d_lw_2101 rfl 0 rfl ?_
    refine z_iload X d_lw_2102 4 rfl ?_
    refine z_iconst X d_lw_2104 (v := 1) (by decide) ?_
    refine z_iadd X d_lw_2105 ?_
    refine z_sld X hX hbl hbA (lw_in hi0 hi1 (k := 1) (by decide) (by decide)) d_lw_2106 (v := xs (i + 1).toNatClampNeg) rfl ?_
    refine mx_callG (rm := { frames := 1, cells := 0, slots := 0, locals := 25 }) (m0 := C_X11_keep_2.2.2.2.2.1) (Ψ := KpQ G 1 h9.toInt bq kq hg tX9 tY9) (wa := wx') (rest := []) (As := [.int (xs (i + 1).toNatClampNeg)]) X k_L_219 (fun ad hW => ac_kqm1 l G hW ha b2 kh3 kh4 x3 t2 t3) ⟨rfl, rfl⟩ hy d_lw_2107 ⟨by decide, by decide⟩ ⟨hc, hs⟩ rfl rfl (Nat.le_of_ble_eq_true rfl) rfl (fun r wm' hz2 hy' hfm => ?_)
    obtain ⟨v2, rfl⟩ := (⟨_, hz2.1⟩ : ∃ v : Int32, r = some (Value.int v))
    obtain ⟨ev0, hM'⟩ := (⟨trivial, RelKh.kp hR.k hfx (i := 1) (by decide) ⟨fun j hj hne => by rcases (by omega : j = 0 ∨ j = 1 ∨ j = 2) with rfl | rfl | rfl <;> first | exact absurd rfl hne | decide, by decide, by decide⟩ a2 ra kh3 kh4 hz.2 hz2 x5 x6 x7 t4 t5⟩ : True ∧ RelKh G wx' wm')
    have hR' : RelQ G wx' wm' := RelQ.of (hR.m.keep hfx hfm (by decide)) (hR.a.keep hfx hfm (by decide)) (hR.d.keep hfx hfm (by decide)) (hR.c.keep hfx hfm (by decide)) (hR.x.keep hfx hfm (by decide)) (hR.b.keep hfx hfm (by decide)) (hR.h.keep hfx hfm (by decide)) (hR.t.keep hfx hfm (by decide)) (hM')
    refine z_pop X d_lw_2110 rfl ?_
    refine z_goto X d_lw_2111 (tgt := 2192) (by decide) ?_
    exact hK wx' wm' hx' hl' hy' hR'
  · skip
    have hv : xs (i + 1).toNatClampNeg = 2 := Int32.toInt_inj.mp (by have z : (2 : Int32).toInt = 2 := (by decide); omega)
    rw [List.append_assoc]
    refine cx_callG (rm := { frames := 3, cells := 0, slots := 0, locals := 68 }) (m0 := C_k_X10_keep_2.2.2.2.2.1) (Ψ := (fun r w1 => (∃ v : Int32, r = some (.int v) ∧ v = 1) ∧ fget w1 84 0 = some (.int 1) ∧ CQ G w1 85 16 hq ∧ CQ G w1 86 8 tq)) (rest := []) (As := [.int (xs (i + 1).toNatClampNeg)]) X k_L_216 (fun ad w0 hW hag => (by rw [hv]; exact ac_kqx2 l G hW ((hag 10 0 (by decide)).trans x2) ((hag 105 0 (by decide)).trans t1))) ⟨rfl, rfl⟩ (by decide) (fun r w1 wc hl h => ⟨h.1, by rw [fget_app (by omega)]; exact h.2.1, h.2.2.1.app (by omega), h.2.2.2.app (by omega)⟩) hx d_lw_2096 ⟨by decide, by decide⟩ ⟨hc, hs⟩ rfl rfl (by decide) rfl (fun r wx' hz hx' hl' hfx => ?_)
    rw [← List.append_assoc]
    obtain ⟨v, rfl⟩ := (hz.1.elim fun v9 h => ⟨v9, h.1⟩ : ∃ v : Int32, r = some (Value.int v))
    refine z_pop X d_lw_2099 rfl ?_
    refine z_aload_n X d_lw_2100 rfl 2 rfl ?_
    refine z_aload_n X d_lw_2101 rfl 0 rfl ?_
    refine z_iload X d_lw_2102 4 rfl ?_
    refine z_iconst X d_lw_2104 (v := 1) (by decide) ?_
    refine z_iadd X d_lw_2105 ?_
    refine z_sld X hX hbl hbA (lw_in hi0 hi1 (k := 1) (by decide) (by decide)) d_lw_2106 (v := xs (i + 1).toNatClampNeg) rfl ?_
    refine mx_callG (rm := { frames := 1, cells := 0, slots := 0, locals := 25 }) (m0 := C_X11_keep_3.2.2.2.2.1) (Ψ := KpQ G 2 h9.toInt bq kq hg tX9 tY9) (wa := wx') (rest := []) (As := [.int (xs (i + 1).toNatClampNeg)]) X k_L_219 (fun ad hW => ac_kqm2 l G hW ha b2 kh3 kh4 x3 t2 t3) ⟨rfl, rfl⟩ hy d_lw_2107 ⟨by decide, by decide⟩ ⟨hc, hs⟩ rfl rfl (Nat.le_of_ble_eq_true rfl) rfl (fun r wm' hz2 hy' hfm => ?_)
    obtain ⟨v2, rfl⟩ := (⟨_, hz2.1⟩ : ∃ v : Int32, r = some (Value.int v))
    obtain ⟨ev0, hM'⟩ := (⟨trivial, RelKh.kp hR.k hfx (i := 2) (by decide) ⟨fun j hj hne => by rcases (by omega : j = 0 ∨ j = 1 ∨ j = 2) with rfl | rfl | rfl <;> first | exact absurd rfl hne | decide, by decide, by decide⟩ a2 ra kh3 kh4 hz.2 hz2 x5 x6 x7 t4 t5⟩ : True ∧ RelKh G wx' wm')
    have hR' : RelQ G wx' wm' := RelQ.of (hR.m.keep hfx hfm (by decide)) (hR.a.keep hfx hfm (by decide)) (hR.d.keep hfx hfm (by decide)) (hR.c.keep hfx hfm (by decide)) (hR.x.keep hfx hfm (by decide)) (hR.b.keep hfx hfm (by decide)) (hR.h.keep hfx hfm (by decide)) (hR.t.keep hfx hfm (by decide)) (hM')
    refine z_pop X d_lw_2110 rfl ?_
    refine z_goto X d_lw_2111 (tgt := 2192) (by decide) ?_
    exact hK wx' wm' hx' hl' hy' hR'
theorem lc_45 (X : ZC p s m #[Value.ref b] meth c code 8 RL G (fun q : Nat => s.heap.size ≤ q) ret nm) (hX : va_X b L xs s s.heap) (hbl : b < s.heap.size) (hbA : ¬ s.heap.size ≤ b) (hi0 : 0 ≤ i.toInt) (hi1 : i.toInt + 10 ≤ (L : Int) ∧ L ≤ 5120) (hx : CWx G x wx) (hy : MWx G y wm) (hR : RelQ G wx wm) (hc : kc ≤ room_1.cells) (hs : ks ≤ room_1.slots) (hK : ∀ wx' wm', CWx G x wx' → wx'.length = wx.length → MWx G y wm' → RelQ G wx' wm' → Z p l e room_1 s m #[Value.ref b] below meth c 8 G (fun q : Nat => s.heap.size ≤ q) (lw_Z below #[Value.ref b] s) 2192 (lv5 b x y o i) [] (wx' ++ wm' ++ [(o, aJ G 1 f)]) kc ks) : Z p l e room_1 s m #[Value.ref b] below meth c 8 G (fun q : Nat => s.heap.size ≤ q) (lw_Z below #[Value.ref b] s) 2114 (lv5 b x y o i) [] (wx ++ wm ++ [(o, aJ G 1 f)]) kc ks := by
  obtain ⟨n, h9, s9, c9, f9, g9, ⟨n0, n1⟩, rc9, e9, ⟨hn1, hn2⟩, ⟨a2, b2⟩, ⟨a3, b3⟩, ⟨a4, b4⟩, a5, b5⟩ := id hR.m
  obtain ⟨hh9, hq, hg, hr, x1, x2, x3, x4, x5, x6, x7⟩ := id hR.h
  obtain rfl := some_int (a2.symm.trans x1)
  obtain ⟨ha0, sa0, ca0, ⟨eh1, es1, ec1⟩, ⟨pq, pg, pa, pb, pe⟩, ⟨rq, rg, ra, rb, re⟩, ⟨fq, fg, fa, fb, fe⟩, ⟨oq, og, oa, ob1, oe⟩, ⟨wq, wg, wa1, wb1, we⟩⟩ := id hR.a
  obtain rfl := some_int (a2.symm.trans eh1)
  obtain rfl := some_int (a3.symm.trans es1)
  obtain rfl := some_int (a4.symm.trans ec1)
  obtain ⟨tq, tX9, tY9, t1, t2, t3, t4, t5⟩ := id hR.t
  obtain rfl := arrinj (ra.symm.trans x4)
  obtain ⟨hk9, rk9, bq, kq, kh1, kh2, kh3, kh4, kz⟩ := id hR.k
  obtain rfl := some_int (a2.symm.trans kh1)
  obtain rfl := arrinj (ra.symm.trans kh2)
  refine z_aload_n X d_lw_2114 rfl 1 rfl ?_
  refine z_aload_n X d_lw_2115 rfl 0 rfl ?_
  refine z_iload X d_lw_2116 4 rfl ?_
  refine z_iconst X d_lw_2118 (v := 1) (by decide) ?_
  refine z_iadd X d_lw_2119 ?_
  refine z_sld X hX hbl hbA (lw_in hi0 hi1 (k := 1) (by decide) (by decide)) d_lw_2120 (v := xs (i + 1).toNatClampNeg) rfl ?_
  rcases (by omega : (xs (i + 1).toNatClampNeg).toInt ≤ -1 ∨ 3 ≤ (xs (i + 1).toNatClampNeg).toInt ∨ (xs (i + 1).toNatClampNeg).toInt = 0 ∨ (xs (i + 1).toNatClampNeg).toInt = 1 ∨ (xs (i + 1).toNatClampNeg).toInt = 2) with ha | ha | ha | ha | ha
  · skip
    rw [List.append_assoc]
    refine cx_callP (rest := []) (As := [.int (xs (i + 1).toNatClampNeg)]) (μ := (fun k => ((Value.ref x :: [.int (xs (i + 1).toNatClampNeg)])[k]?).getD .null)) X k_L_220 (ac_k_X10_again_o0 l G) (by decide) hx (fun ad w0 he hag => pre_mu (C := C_k_X10_again_o0) (ts := [(0, -2147483648, -1)]) (As := [.int (xs (i + 1).toNatClampNeg)]) rfl rfl rfl rfl ⟨fun _ => vty_i (i32_lo _) (by omega), trivial⟩ ad w0 he) rfl d_lw_2121 ⟨by decide, by decide⟩ ⟨hc, hs⟩ rfl rfl (by decide) rfl (fun ad r wx' hz hx' hl' => ?_)
    rw [← List.append_assoc]
    have hfx := pz_fx hz
    obtain ⟨v, ν, rfl, v0, v1, e50, eA, eF, hF, hL⟩ := pz_a hz rfl rfl rfl
    refine z_pop X d_lw_2124 rfl ?_
    refine z_aload_n X d_lw_2125 rfl 2 rfl ?_
    refine z_aload_n X d_lw_2126 rfl 0 rfl ?_
    refine z_iload X d_lw_2127 4 rfl ?_
    refine z_iconst X d_lw_2129 (v := 1) (by decide) ?_
    refine z_iadd X d_lw_2130 ?_
    refine z_sld X hX hbl hbA (lw_in hi0 hi1 (k := 1) (by decide) (by decide)) d_lw_2131 (v := xs (i + 1).toNatClampNeg) rfl ?_
    refine mx_callP (wa := wx') (rest := []) (As := [.int (xs (i + 1).toNatClampNeg)]) (μ := (fun k => ((Value.ref y :: [.int (xs (i + 1).toNatClampNeg)])[k]?).getD .null)) X k_L_223 (ac_X11_again_0 l G) hy (fun ad he => pre_mu (C := C_X11_again_0) (ts := [(0, -2147483648, -1)]) (As := [.int (xs (i + 1).toNatClampNeg)]) rfl rfl rfl rfl ⟨fun _ => vty_i (i32_lo _) (by omega), trivial⟩ ad wm he) rfl d_lw_2132 ⟨by decide, by decide⟩ ⟨hc, hs⟩ rfl rfl (Nat.le_of_ble_eq_true rfl) rfl (fun ad2 r wm' hz2 hy' => ?_)
    have hfm := pz_fx hz2
    obtain ⟨v2, ν2, rfl, w0, w1, f50, fA, fF, hF2, hL2⟩ := pz_a hz2 rfl rfl rfl
    have hR' : RelQ G wx' wm' := RelQ.of (hR.m.keep hfx hfm (by decide)) (hR.a.keep hfx hfm (by decide)) (hR.d.keep hfx hfm (by decide)) (hR.c.keep hfx hfm (by decide)) (hR.x.keep hfx hfm (by decide)) (hR.b.keep hfx hfm (by decide)) (hR.h.keep hfx hfm (by decide)) (hR.t.keep hfx hfm (by decide)) (hR.k.keep hfx hfm (by decide))
    refine z_pop X d_lw_2135 rfl ?_
    refine z_goto X d_lw_2136 (tgt := 2192) (by decide) ?_
    exact hK wx' wm' hx' hl' hy' hR'
  · skip
    rw [List.append_assoc]
    refine cx_callP (rest := []) (As := [.int (xs (i + 1).toNatClampNeg)]) (μ := (fun k => ((Value.ref x :: [.int (xs (i + 1).toNatClampNeg)])[k]?).getD .null)) X k_L_220 (ac_k_X10_again_o1 l G) (by decide) hx (fun ad w0 he hag => pre_mu (C := C_k_X10_again_o1) (ts := [(0, 3, 2147483647)]) (As := [.int (xs (i + 1).toNatClampNeg)]) rfl rfl rfl rfl ⟨fun _ => vty_i (by omega) (i32_hi _), trivial⟩ ad w0 he) rfl d_lw_2121 ⟨by decide, by decide⟩ ⟨hc, hs⟩ rfl rfl (by decide) rfl (fun ad r wx' hz hx' hl' => ?_)
    rw [← List.append_assoc]
    have hfx := pz_fx hz
    obtain ⟨v, ν, rfl, v0, v1, e50, eA, eF, hF, hL⟩ := pz_a hz rfl rfl rfl
    refine z_pop X d_lw_2124 rfl ?_
    refine z_aload_n X d_lw_2125 rfl 2 rfl ?_
    refine z_aload_n X d_lw_2126 rfl 0 rfl ?_
    refine z_iload X d_lw_2127 4 rfl ?_
    refine z_iconst X d_lw_2129 (v := 1) (by decide) ?_
    refine z_iadd X d_lw_2130 ?_
    refine z_sld X hX hbl hbA (lw_in hi0 hi1 (k := 1) (by decide) (by decide)) d_lw_2131 (v := xs (i + 1).toNatClampNeg) rfl ?_
    refine mx_callP (wa := wx') (rest := []) (As := [.int (xs (i + 1).toNatClampNeg)]) (μ := (fun k => ((Value.ref y :: [.int (xs (i + 1).toNatClampNeg)])[k]?).getD .null)) X k_L_223 (ac_X11_again_4 l G) hy (fun ad he => pre_mu (C := C_X11_again_4) (ts := [(0, 3, 2147483647)]) (As := [.int (xs (i + 1).toNatClampNeg)]) rfl rfl rfl rfl ⟨fun _ => vty_i (by omega) (i32_hi _), trivial⟩ ad wm he) rfl d_lw_2132 ⟨by decide, by decide⟩ ⟨hc, hs⟩ rfl rfl (Nat.le_of_ble_eq_true rfl) rfl (fun ad2 r wm' hz2 hy' => ?_)
    have hfm := pz_fx hz2
    obtain ⟨v2, ν2, rfl, w0, w1, f50, fA, fF, hF2, hL2⟩ := pz_a hz2 rfl rfl rfl
    have hR' : RelQ G wx' wm' := RelQ.of (hR.m.keep hfx hfm (by decide)) (hR.a.keep hfx hfm (by decide)) (hR.d.keep hfx hfm (by decide)) (hR.c.keep hfx hfm (by decide)) (hR.x.keep hfx hfm (by decide)) (hR.b.keep hfx hfm (by decide)) (hR.h.keep hfx hfm (by decide)) (hR.t.keep hfx hfm (by decide)) (hR.k.keep hfx hfm (by decide))
    refine z_pop X d_lw_2135 rfl ?_
    refine z_goto X d_lw_2136 (tgt := 2192) (by decide) ?_
    exact hK wx' wm' hx' hl' hy' hR'
  · skip
    have hv : xs (i + 1).toNatClampNeg = 0 := Int32.toInt_inj.mp (by have z : (0 : Int32).toInt = 0 := (by decide); omega)
    obtain ⟨fl_, qk_, tk_, y1, y2, y3, y4, y5, y6, y7⟩ := id (kz 0 (by decide))
    have ya : bq (xs (i + 1).toNatClampNeg).toNatClampNeg = fl_ := by rw [show (xs (i + 1).toNatClampNeg).toNatClampNeg = 0 from congrArg Int.toNat ha]; exact y4
    rcases (by omega : fl_.toInt = 1 ∨ fl_.toInt = 0) with hf | hf
    · skip
      rw [List.append_assoc]
      refine cx_callG (rm := { frames := 3, cells := 0, slots := 0, locals := 68 }) (m0 := C_k_X10_again_0.2.2.2.2.1) (Ψ := (fun r w1 => (∃ v : Int32, r = some (.int v) ∧ v = 1) ∧ CQ G w1 10 16 qk_ ∧ CQ G w1 105 8 tk_)) (rest := []) (As := [.int (xs (i + 1).toNatClampNeg)]) X k_L_220 (fun ad w0 hW hag => (by rw [hv]; exact ac_gqx0 l G hW ((fget_eq (hag 46 0 (by decide))).trans y1) (by omega) ((hag 47 0 (by decide)).trans y2) ((hag 48 0 (by decide)).trans y3))) ⟨rfl, rfl⟩ (by decide) (fun r w1 wc hl h => ⟨h.1, h.2.1.app (by omega), h.2.2.app (by omega)⟩) hx d_lw_2121 ⟨by decide, by decide⟩ ⟨hc, hs⟩ rfl rfl (by decide) rfl (fun r wx' hz hx' hl' hfx => ?_)
      rw [← List.append_assoc]
      obtain ⟨v, rfl⟩ := (hz.1.elim fun v9 h => ⟨v9, h.1⟩ : ∃ v : Int32, r = some (Value.int v))
      refine z_pop X d_lw_2124 rfl ?_
      refine z_aload_n X d_lw_2125 rfl 2 rfl ?_
      refine z_aload_n X d_lw_2126 rfl 0 rfl ?_
      refine z_iload X d_lw_2127 4 rfl ?_
      refine z_iconst X d_lw_2129 (v := 1) (by decide) ?_
      refine z_iadd X d_lw_2130 ?_
      refine z_sld X hX hbl hbA (lw_in hi0 hi1 (k := 1) (by decide) (by decide)) d_lw_2131 (v := xs (i + 1).toNatClampNeg) rfl ?_
      refine mx_callG (rm := { frames := 1, cells := 0, slots := 0, locals := 25 }) (m0 := C_X11_again_1.2.2.2.2.1) (Ψ := (fun r w1 => r = some (.int 1) ∧ CQ G w1 6 16 (fun m => kq (154 * 0 + 2 + m)) ∧ CQ G w1 18 4 (fun m => kq (154 * 0 + 18 + 2 * m)) ∧ CQ G w1 19 4 (fun m => kq (154 * 0 + 19 + 2 * m)))) (wa := wx') (rest := []) (As := [.int (xs (i + 1).toNatClampNeg)]) X k_L_223 (fun ad hW => ac_gqm0 l G hW ha b2 kh3 kh4 x3 t2 t3 (by rw [ya]; omega)) ⟨rfl, rfl⟩ hy d_lw_2132 ⟨by decide, by decide⟩ ⟨hc, hs⟩ rfl rfl (Nat.le_of_ble_eq_true rfl) rfl (fun r wm' hz2 hy' hfm => ?_)
      obtain ⟨v2, rfl⟩ := (⟨_, hz2.1⟩ : ∃ v : Int32, r = some (Value.int v))
      obtain ⟨ev0, hM'⟩ := (⟨trivial, RKh.back (i := 0) (kz 0 (by decide)) hfx (by decide) y1 (by omega) y2 y3 a2 ra hz.2 hz2.2⟩ : True ∧ RelH G wx' wm' ∧ RelTh G wx' wm')
      have hR' : RelQ G wx' wm' := RelQ.of (hR.m.keep hfx hfm (by decide)) (hR.a.keep hfx hfm (by decide)) (hR.d.keep hfx hfm (by decide)) (hR.c.keep hfx hfm (by decide)) (hR.x.keep hfx hfm (by decide)) (hR.b.keep hfx hfm (by decide)) (hM'.1) (hM'.2) (hR.k.keep hfx hfm (by decide))
      refine z_pop X d_lw_2135 rfl ?_
      refine z_goto X d_lw_2136 (tgt := 2192) (by decide) ?_
      exact hK wx' wm' hx' hl' hy' hR'
    · skip
      rw [List.append_assoc]
      refine cx_callP (rest := []) (As := [.int (xs (i + 1).toNatClampNeg)]) (μ := muF x [.int (xs (i + 1).toNatClampNeg)] [.int (fl_)]) X k_L_220 (ac_k_X10_again_1 l G) (by decide) hx (fun ad w0 he hag => pre_F (C := C_k_X10_again_1) (ts := [(0, 0, 0)]) (As := [.int (xs (i + 1).toNatClampNeg)]) (t0 := (0, 0, 0)) rfl rfl (Nat.le_of_ble_eq_true rfl) ⟨fun _ => vty_i (by omega) (by omega), trivial⟩ (fun _ => vty_i (by omega) (by omega)) (fun _ h => absurd h List.not_mem_nil) ad w0 he ((hag 46 0 (by decide)).trans y1)) rfl d_lw_2121 ⟨by decide, by decide⟩ ⟨hc, hs⟩ rfl rfl (by decide) rfl (fun ad r wx' hz hx' hl' => ?_)
      rw [← List.append_assoc]
      have hfx := pz_fx hz
      obtain ⟨v, ν, rfl, v0, v1, e50, eA, eF, hF, hL⟩ := pz_a hz rfl rfl rfl
      refine z_pop X d_lw_2124 rfl ?_
      refine z_aload_n X d_lw_2125 rfl 2 rfl ?_
      refine z_aload_n X d_lw_2126 rfl 0 rfl ?_
      refine z_iload X d_lw_2127 4 rfl ?_
      refine z_iconst X d_lw_2129 (v := 1) (by decide) ?_
      refine z_iadd X d_lw_2130 ?_
      refine z_sld X hX hbl hbA (lw_in hi0 hi1 (k := 1) (by decide) (by decide)) d_lw_2131 (v := xs (i + 1).toNatClampNeg) rfl ?_
      refine mx_callG (rm := { frames := 1, cells := 0, slots := 0, locals := 25 }) (m0 := C_X11_again_1.2.2.2.2.1) (Ψ := (fun r w1 => r = some (.int 0) ∧ CQ G w1 6 16 (hg) ∧ CQ G w1 18 4 (tX9) ∧ CQ G w1 19 4 (tY9))) (wa := wx') (rest := []) (As := [.int (xs (i + 1).toNatClampNeg)]) X k_L_223 (fun ad hW => ac_nqm0 l G hW ha b2 kh3 kh4 x3 t2 t3 (by rw [ya]; omega)) ⟨rfl, rfl⟩ hy d_lw_2132 ⟨by decide, by decide⟩ ⟨hc, hs⟩ rfl rfl (Nat.le_of_ble_eq_true rfl) rfl (fun r wm' hz2 hy' hfm => ?_)
      obtain ⟨v2, rfl⟩ := (⟨_, hz2.1⟩ : ∃ v : Int32, r = some (Value.int v))
      have hR' : RelQ G wx' wm' := RelQ.of (hR.m.keep hfx hfm (by decide)) (hR.a.keep hfx hfm (by decide)) (hR.d.keep hfx hfm (by decide)) (hR.c.keep hfx hfm (by decide)) (hR.x.keep hfx hfm (by decide)) (hR.b.keep hfx hfm (by decide)) (RelH.same hR.h hfx (by decide) x3 hz2.2.1) (RelTh.same hR.t hfx (by decide) t2 t3 hz2.2.2.1 hz2.2.2.2) (hR.k.keep hfx hfm (by decide))
      refine z_pop X d_lw_2135 rfl ?_
      refine z_goto X d_lw_2136 (tgt := 2192) (by decide) ?_
      exact hK wx' wm' hx' hl' hy' hR'
  · skip
    have hv : xs (i + 1).toNatClampNeg = 1 := Int32.toInt_inj.mp (by have z : (1 : Int32).toInt = 1 := (by decide); omega)
    obtain ⟨fl_, qk_, tk_, y1, y2, y3, y4, y5, y6, y7⟩ := id (kz 1 (by decide))
    have ya : bq (xs (i + 1).toNatClampNeg).toNatClampNeg = fl_ := by rw [show (xs (i + 1).toNatClampNeg).toNatClampNeg = 1 from congrArg Int.toNat ha]; exact y4
    rcases (by omega : fl_.toInt = 1 ∨ fl_.toInt = 0) with hf | hf
    · skip
      rw [List.append_assoc]
      refine cx_callG (rm := { frames := 3, cells := 0, slots := 0, locals := 68 }) (m0 := C_k_X10_again_2.2.2.2.2.1) (Ψ := (fun r w1 => (∃ v : Int32, r = some (.int v) ∧ v = 1) ∧ CQ G w1 10 16 qk_ ∧ CQ G w1 105 8 tk_)) (rest := []) (As := [.int (xs (i + 1).toNatClampNeg)]) X k_L_220 (fun ad w0 hW hag => (by rw [hv]; exact ac_gqx1 l G hW ((fget_eq (hag 65 0 (by decide))).trans y1) (by omega) ((hag 66 0 (by decide)).trans y2) ((hag 67 0 (by decide)).trans y3))) ⟨rfl, rfl⟩ (by decide) (fun r w1 wc hl h => ⟨h.1, h.2.1.app (by omega), h.2.2.app (by omega)⟩) hx d_lw_2121 ⟨by decide, by decide⟩ ⟨hc, hs⟩ rfl rfl (by decide) rfl (fun r wx' hz hx' hl' hfx => ?_)
      rw [← List.append_assoc]
      obtain ⟨v, rfl⟩ := (hz.1.elim fun v9 h => ⟨v9, h.1⟩ : ∃ v : Int32, r = some (Value.int v))
      refine z_pop X d_lw_2124 rfl ?_
      refine z_aload_n X d_lw_2125 rfl 2 rfl ?_
      refine z_aload_n X d_lw_2126 rfl 0 rfl ?_
      refine z_iload X d_lw_2127 4 rfl ?_
      refine z_iconst X d_lw_2129 (v := 1) (by decide) ?_
      refine z_iadd X d_lw_2130 ?_
      refine z_sld X hX hbl hbA (lw_in hi0 hi1 (k := 1) (by decide) (by decide)) d_lw_2131 (v := xs (i + 1).toNatClampNeg) rfl ?_
      refine mx_callG (rm := { frames := 1, cells := 0, slots := 0, locals := 25 }) (m0 := C_X11_again_2.2.2.2.2.1) (Ψ := (fun r w1 => r = some (.int 1) ∧ CQ G w1 6 16 (fun m => kq (154 * 1 + 2 + m)) ∧ CQ G w1 18 4 (fun m => kq (154 * 1 + 18 + 2 * m)) ∧ CQ G w1 19 4 (fun m => kq (154 * 1 + 19 + 2 * m)))) (wa := wx') (rest := []) (As := [.int (xs (i + 1).toNatClampNeg)]) X k_L_223 (fun ad hW => ac_gqm1 l G hW ha b2 kh3 kh4 x3 t2 t3 (by rw [ya]; omega)) ⟨rfl, rfl⟩ hy d_lw_2132 ⟨by decide, by decide⟩ ⟨hc, hs⟩ rfl rfl (Nat.le_of_ble_eq_true rfl) rfl (fun r wm' hz2 hy' hfm => ?_)
      obtain ⟨v2, rfl⟩ := (⟨_, hz2.1⟩ : ∃ v : Int32, r = some (Value.int v))
      obtain ⟨ev0, hM'⟩ := (⟨trivial, RKh.back (i := 1) (kz 1 (by decide)) hfx (by decide) y1 (by omega) y2 y3 a2 ra hz.2 hz2.2⟩ : True ∧ RelH G wx' wm' ∧ RelTh G wx' wm')
      have hR' : RelQ G wx' wm' := RelQ.of (hR.m.keep hfx hfm (by decide)) (hR.a.keep hfx hfm (by decide)) (hR.d.keep hfx hfm (by decide)) (hR.c.keep hfx hfm (by decide)) (hR.x.keep hfx hfm (by decide)) (hR.b.keep hfx hfm (by decide)) (hM'.1) (hM'.2) (hR.k.keep hfx hfm (by decide))
      refine z_pop X d_lw_2135 rfl ?_
      refine z_goto X d_lw_2136 (tgt := 2192) (by decide) ?_
      exact hK wx' wm' hx' hl' hy' hR'
    · skip
      rw [List.append_assoc]
      refine cx_callP (rest := []) (As := [.int (xs (i + 1).toNatClampNeg)]) (μ := muF x [.int (xs (i + 1).toNatClampNeg)] [.int (fl_)]) X k_L_220 (ac_k_X10_again_3 l G) (by decide) hx (fun ad w0 he hag => pre_F (C := C_k_X10_again_3) (ts := [(0, 1, 1)]) (As := [.int (xs (i + 1).toNatClampNeg)]) (t0 := (0, 0, 0)) rfl rfl (Nat.le_of_ble_eq_true rfl) ⟨fun _ => vty_i (by omega) (by omega), trivial⟩ (fun _ => vty_i (by omega) (by omega)) (fun _ h => absurd h List.not_mem_nil) ad w0 he ((hag 65 0 (by decide)).trans y1)) rfl d_lw_2121 ⟨by decide, by decide⟩ ⟨hc, hs⟩ rfl rfl (by decide) rfl (fun ad r wx' hz hx' hl' => ?_)
      rw [← List.append_assoc]
      have hfx := pz_fx hz
      obtain ⟨v, ν, rfl, v0, v1, e50, eA, eF, hF, hL⟩ := pz_a hz rfl rfl rfl
      refine z_pop X d_lw_2124 rfl ?_
      refine z_aload_n X d_lw_2125 rfl 2 rfl ?_
      refine z_aload_n X d_lw_2126 rfl 0 rfl ?_
      refine z_iload X d_lw_2127 4 rfl ?_
      refine z_iconst X d_lw_2129 (v := 1) (by decide) ?_
      refine z_iadd X d_lw_2130 ?_
      refine z_sld X hX hbl hbA (lw_in hi0 hi1 (k := 1) (by decide) (by decide)) d_lw_2131 (v := xs (i + 1).toNatClampNeg) rfl ?_
      refine mx_callG (rm := { frames := 1, cells := 0, slots := 0, locals := 25 }) (m0 := C_X11_again_2.2.2.2.2.1) (Ψ := (fun r w1 => r = some (.int 0) ∧ CQ G w1 6 16 (hg) ∧ CQ G w1 18 4 (tX9) ∧ CQ G w1 19 4 (tY9))) (wa := wx') (rest := []) (As := [.int (xs (i + 1).toNatClampNeg)]) X k_L_223 (fun ad hW => ac_nqm1 l G hW ha b2 kh3 kh4 x3 t2 t3 (by rw [ya]; omega)) ⟨rfl, rfl⟩ hy d_lw_2132 ⟨by decide, by decide⟩ ⟨hc, hs⟩ rfl rfl (Nat.le_of_ble_eq_true rfl) rfl (fun r wm' hz2 hy' hfm => ?_)
      obtain ⟨v2, rfl⟩ := (⟨_, hz2.1⟩ : ∃ v : Int32, r = some (Value.int v))
      have hR' : RelQ G wx' wm' := RelQ.of (hR.m.keep hfx hfm (by decide)) (hR.a.keep hfx hfm (by decide)) (hR.d.keep hfx hfm (by decide)) (hR.c.keep hfx hfm (by decide)) (hR.x.keep hfx hfm (by decide)) (hR.b.keep hfx hfm (by decide)) (RelH.same hR.h hfx (by decide) x3 hz2.2.1) (RelTh.same hR.t hfx (by decide) t2 t3 hz2.2.2.1 hz2.2.2.2) (hR.k.keep hfx hfm (by decide))
      refine z_pop X d_lw_2135 rfl ?_
      refine z_goto X d_lw_2136 (tgt := 2192) (by decide) ?_
      exact hK wx' wm' hx' hl' hy' hR'
  · skip
    have hv : xs (i + 1).toNatClampNeg = 2 := Int32.toInt_inj.mp (by have z : (2 : Int32).toInt = 2 := (by decide); omega)
    obtain ⟨fl_, qk_, tk_, y1, y2, y3, y4, y5, y6, y7⟩ := id (kz 2 (by decide))
    have ya : bq (xs (i + 1).toNatClampNeg).toNatClampNeg = fl_ := by rw [show (xs (i + 1).toNatClampNeg).toNatClampNeg = 2 from congrArg Int.toNat ha]; exact y4
    rcases (by omega : fl_.toInt = 1 ∨ fl_.toInt = 0) with hf | hf
    · skip
      rw [List.append_assoc]
      refine cx_callG (rm := { frames := 3, cells := 0, slots := 0, locals := 68 }) (m0 := C_k_X10_again_4.2.2.2.2.1) (Ψ := (fun r w1 => (∃ v : Int32, r = some (.int v) ∧ v = 1) ∧ CQ G w1 10 16 qk_ ∧ CQ G w1 105 8 tk_)) (rest := []) (As := [.int (xs (i + 1).toNatClampNeg)]) X k_L_220 (fun ad w0 hW hag => (by rw [hv]; exact ac_gqx2 l G hW ((fget_eq (hag 84 0 (by decide))).trans y1) (by omega) ((hag 85 0 (by decide)).trans y2) ((hag 86 0 (by decide)).trans y3))) ⟨rfl, rfl⟩ (by decide) (fun r w1 wc hl h => ⟨h.1, h.2.1.app (by omega), h.2.2.app (by omega)⟩) hx d_lw_2121 ⟨by decide, by decide⟩ ⟨hc, hs⟩ rfl rfl (by decide) rfl (fun r wx' hz hx' hl' hfx => ?_)
      rw [← List.append_assoc]
      obtain ⟨v, rfl⟩ := (hz.1.elim fun v9 h => ⟨v9, h.1⟩ : ∃ v : Int32, r = some (Value.int v))
      refine z_pop X d_lw_2124 rfl ?_
      refine z_aload_n X d_lw_2125 rfl 2 rfl ?_
      refine z_aload_n X d_lw_2126 rfl 0 rfl ?_
      refine z_iload X d_lw_2127 4 rfl ?_
      refine z_iconst X d_lw_2129 (v := 1) (by decide) ?_
      refine z_iadd X d_lw_2130 ?_
      refine z_sld X hX hbl hbA (lw_in hi0 hi1 (k := 1) (by decide) (by decide)) d_lw_2131 (v := xs (i + 1).toNatClampNeg) rfl ?_
      refine mx_callG (rm := { frames := 1, cells := 0, slots := 0, locals := 25 }) (m0 := C_X11_again_3.2.2.2.2.1) (Ψ := (fun r w1 => r = some (.int 1) ∧ CQ G w1 6 16 (fun m => kq (154 * 2 + 2 + m)) ∧ CQ G w1 18 4 (fun m => kq (154 * 2 + 18 + 2 * m)) ∧ CQ G w1 19 4 (fun m => kq (154 * 2 + 19 + 2 * m)))) (wa := wx') (rest := []) (As := [.int (xs (i + 1).toNatClampNeg)]) X k_L_223 (fun ad hW => ac_gqm2 l G hW ha b2 kh3 kh4 x3 t2 t3 (by rw [ya]; omega)) ⟨rfl, rfl⟩ hy d_lw_2132 ⟨by decide, by decide⟩ ⟨hc, hs⟩ rfl rfl (Nat.le_of_ble_eq_true rfl) rfl (fun r wm' hz2 hy' hfm => ?_)
      obtain ⟨v2, rfl⟩ := (⟨_, hz2.1⟩ : ∃ v : Int32, r = some (Value.int v))
      obtain ⟨ev0, hM'⟩ := (⟨trivial, RKh.back (i := 2) (kz 2 (by decide)) hfx (by decide) y1 (by omega) y2 y3 a2 ra hz.2 hz2.2⟩ : True ∧ RelH G wx' wm' ∧ RelTh G wx' wm')
      have hR' : RelQ G wx' wm' := RelQ.of (hR.m.keep hfx hfm (by decide)) (hR.a.keep hfx hfm (by decide)) (hR.d.keep hfx hfm (by decide)) (hR.c.keep hfx hfm (by decide)) (hR.x.keep hfx hfm (by decide)) (hR.b.keep hfx hfm (by decide)) (hM'.1) (hM'.2) (hR.k.keep hfx hfm (by decide))
      refine z_pop X d_lw_2135 rfl ?_
      refine z_goto X d_lw_2136 (tgt := 2192) (by decide) ?_
      exact hK wx' wm' hx' hl' hy' hR'
    · skip
      rw [List.append_assoc]
      refine cx_callP (rest := []) (As := [.int (xs (i + 1).toNatClampNeg)]) (μ := muF x [.int (xs (i + 1).toNatClampNeg)] [.int (fl_)]) X k_L_220 (ac_k_X10_again_5 l G) (by decide) hx (fun ad w0 he hag => pre_F (C := C_k_X10_again_5) (ts := [(0, 2, 2)]) (As := [.int (xs (i + 1).toNatClampNeg)]) (t0 := (0, 0, 0)) rfl rfl (Nat.le_of_ble_eq_true rfl) ⟨fun _ => vty_i (by omega) (by omega), trivial⟩ (fun _ => vty_i (by omega) (by omega)) (fun _ h => absurd h List.not_mem_nil) ad w0 he ((hag 84 0 (by decide)).trans y1)) rfl d_lw_2121 ⟨by decide, by decide⟩ ⟨hc, hs⟩ rfl rfl (by decide) rfl (fun ad r wx' hz hx' hl' => ?_)
      rw [← List.append_assoc]
      have hfx := pz_fx hz
      obtain ⟨v, ν, rfl, v0, v1, e50, eA, eF, hF, hL⟩ := pz_a hz rfl rfl rfl
      refine z_pop X d_lw_2124 rfl ?_
      refine z_aload_n X d_lw_2125 rfl 2 rfl ?_
      refine z_aload_n X d_lw_2126 rfl 0 rfl ?_
      refine z_iload X d_lw_2127 4 rfl ?_
      refine z_iconst X d_lw_2129 (v := 1) (by decide) ?_
      refine z_iadd X d_lw_2130 ?_
      refine z_sld X hX hbl hbA (lw_in hi0 hi1 (k := 1) (by decide) (by decide)) d_lw_2131 (v := xs (i + 1).toNatClampNeg) rfl ?_
      refine mx_callG (rm := { frames := 1, cells := 0, slots := 0, locals := 25 }) (m0 := C_X11_again_3.2.2.2.2.1) (Ψ := (fun r w1 => r = some (.int 0) ∧ CQ G w1 6 16 (hg) ∧ CQ G w1 18 4 (tX9) ∧ CQ G w1 19 4 (tY9))) (wa := wx') (rest := []) (As := [.int (xs (i + 1).toNatClampNeg)]) X k_L_223 (fun ad hW => ac_nqm2 l G hW ha b2 kh3 kh4 x3 t2 t3 (by rw [ya]; omega)) ⟨rfl, rfl⟩ hy d_lw_2132 ⟨by decide, by decide⟩ ⟨hc, hs⟩ rfl rfl (Nat.le_of_ble_eq_true rfl) rfl (fun r wm' hz2 hy' hfm => ?_)
      obtain ⟨v2, rfl⟩ := (⟨_, hz2.1⟩ : ∃ v : Int32, r = some (Value.int v))
      have hR' : RelQ G wx' wm' := RelQ.of (hR.m.keep hfx hfm (by decide)) (hR.a.keep hfx hfm (by decide)) (hR.d.keep hfx hfm (by decide)) (hR.c.keep hfx hfm (by decide)) (hR.x.keep hfx hfm (by decide)) (hR.b.keep hfx hfm (by decide)) (RelH.same hR.h hfx (by decide) x3 hz2.2.1) (RelTh.same hR.t hfx (by decide) t2 t3 hz2.2.2.1 hz2.2.2.2) (hR.k.keep hfx hfm (by decide))
      refine z_pop X d_lw_2135 rfl ?_
      refine z_goto X d_lw_2136 (tgt := 2192) (by decide) ?_
      exact hK wx' wm' hx' hl' hy' hR'
theorem lc_46 (X : ZC p s m #[Value.ref b] meth c code 8 RL G (fun q : Nat => s.heap.size ≤ q) ret nm) (hX : va_X b L xs s s.heap) (hbl : b < s.heap.size) (hbA : ¬ s.heap.size ≤ b) (hi0 : 0 ≤ i.toInt) (hi1 : i.toInt + 10 ≤ (L : Int) ∧ L ≤ 5120) (hx : CWx G x wx) (hy : MWx G y wm) (hR : RelQ G wx wm) (hc : kc ≤ room_1.cells) (hs : ks ≤ room_1.slots) (hK : ∀ wx' wm', CWx G x wx' → wx'.length = wx.length → MWx G y wm' → RelQ G wx' wm' → Z p l e room_1 s m #[Value.ref b] below meth c 8 G (fun q : Nat => s.heap.size ≤ q) (lw_Z below #[Value.ref b] s) 2192 (lv5 b x y o i) [] (wx' ++ wm' ++ [(o, aJ G 1 f)]) kc ks) : Z p l e room_1 s m #[Value.ref b] below meth c 8 G (fun q : Nat => s.heap.size ≤ q) (lw_Z below #[Value.ref b] s) 2139 (lv5 b x y o i) [] (wx ++ wm ++ [(o, aJ G 1 f)]) kc ks := by
  refine z_aload_n X d_lw_2139 rfl 1 rfl ?_
  refine z_aload_n X d_lw_2140 rfl 0 rfl ?_
  refine z_iload X d_lw_2141 4 rfl ?_
  refine z_iconst X d_lw_2143 (v := 1) (by decide) ?_
  refine z_iadd X d_lw_2144 ?_
  refine z_sld X hX hbl hbA (lw_in hi0 hi1 (k := 1) (by decide) (by decide)) d_lw_2145 (v := xs (i + 1).toNatClampNeg) rfl ?_
  rw [List.append_assoc]
  refine cx_callF (k := 0) (rest := []) (As := [.int (xs (i + 1).toNatClampNeg)]) (μ := (fun k => ((Value.ref x :: [.int (xs (i + 1).toNatClampNeg)])[k]?).getD .null)) X k_L_224 (ac_X10_count_0 l G) (by decide) (by decide) (by decide) hx (fun ad w0 he => pre_mu (C := C_X10_count_0) (ts := [tI0]) (As := [.int (xs (i + 1).toNatClampNeg)]) rfl rfl rfl rfl ⟨fun _ => vty_i0 _, trivial⟩ ad w0 he) rfl d_lw_2146 ⟨by decide, by decide⟩ ⟨hc, hs⟩ rfl rfl (by decide) rfl (fun r wx' hr hx' hl' hfx => ?_)
  rw [← List.append_assoc]
  rcases hr with ⟨h, -⟩ | ⟨-, v, rfl⟩ | ⟨h, -⟩
  all_goals first | (exact absurd h (by decide)) | skip
  refine z_pop X d_lw_2149 rfl ?_
  refine z_aload_n X d_lw_2150 rfl 2 rfl ?_
  refine z_aload_n X d_lw_2151 rfl 0 rfl ?_
  refine z_iload X d_lw_2152 4 rfl ?_
  refine z_iconst X d_lw_2154 (v := 1) (by decide) ?_
  refine z_iadd X d_lw_2155 ?_
  refine z_sld X hX hbl hbA (lw_in hi0 hi1 (k := 1) (by decide) (by decide)) d_lw_2156 (v := xs (i + 1).toNatClampNeg) rfl ?_
  refine mx_callF (k := 0) (wa := wx') (rest := []) (As := [.int (xs (i + 1).toNatClampNeg)]) (μ := (fun k => ((Value.ref y :: [.int (xs (i + 1).toNatClampNeg)])[k]?).getD .null)) X k_L_227 (ac_X11_count_0 l G) (by decide) (by decide) hy (fun ad w0 he => pre_mu (C := C_X11_count_0) (ts := [tI0]) (As := [.int (xs (i + 1).toNatClampNeg)]) rfl rfl rfl rfl ⟨fun _ => vty_i0 _, trivial⟩ ad w0 he) rfl d_lw_2157 ⟨by decide, by decide⟩ ⟨hc, hs⟩ rfl rfl (Nat.le_of_ble_eq_true rfl) rfl (fun r wm' hr hy' hfm => ?_)
  rcases hr with ⟨h, -⟩ | ⟨-, v, rfl⟩ | ⟨h, -⟩
  all_goals first | (exact absurd h (by decide)) | skip
  refine z_pop X d_lw_2160 rfl ?_
  refine z_goto X d_lw_2161 (tgt := 2192) (by decide) ?_
  exact hK wx' wm' hx' hl' hy' (RelQ.of (hR.m.keep hfx hfm (by decide)) (hR.a.keep hfx hfm (by decide)) (hR.d.keep hfx hfm (by decide)) (hR.c.keep hfx hfm (by decide)) (hR.x.keep hfx hfm (by decide)) (hR.b.keep hfx hfm (by decide)) (hR.h.keep hfx hfm (by decide)) (hR.t.keep hfx hfm (by decide)) (hR.k.keep hfx hfm (by decide)))
theorem lc_47 (X : ZC p s m #[Value.ref b] meth c code 8 RL G (fun q : Nat => s.heap.size ≤ q) ret nm) (hX : va_X b L xs s s.heap) (hbl : b < s.heap.size) (hbA : ¬ s.heap.size ≤ b) (hi0 : 0 ≤ i.toInt) (hi1 : i.toInt + 10 ≤ (L : Int) ∧ L ≤ 5120) (hx : CWx G x wx) (hy : MWx G y wm) (hR : RelQ G wx wm) (hE : EXs (fun q : Nat => s.heap.size ≤ q) s s.heap) (hst : l.stackTraces = false) (hc : kc + 1 ≤ room_1.cells) (hs : ks + 6 ≤ room_1.slots) (hK : ∀ wx' wm' f', CWx G x wx' → wx'.length = wx.length → MWx G y wm' → RelQ G wx' wm' → Z p l e room_1 s m #[Value.ref b] below meth c 8 G (fun q : Nat => s.heap.size ≤ q) (lw_Z below #[Value.ref b] s) 2192 (lv5 b x y o i) [] (wx' ++ wm' ++ [(o, aJ G 1 f')]) (kc + 1) (ks + 6)) : Z p l e room_1 s m #[Value.ref b] below meth c 8 G (fun q : Nat => s.heap.size ≤ q) (lw_Z below #[Value.ref b] s) 2164 (lv5 b x y o i) [] (wx ++ wm ++ [(o, aJ G 1 f)]) kc ks := by
  refine z_aload_n X d_lw_2164 rfl 1 rfl ?_
  refine z_aload_n X d_lw_2165 rfl 0 rfl ?_
  refine z_iload X d_lw_2166 4 rfl ?_
  refine z_iconst X d_lw_2168 (v := 1) (by decide) ?_
  refine z_iadd X d_lw_2169 ?_
  refine z_sld X hX hbl hbA (lw_in hi0 hi1 (k := 1) (by decide) (by decide)) d_lw_2170 (v := xs (i + 1).toNatClampNeg) rfl ?_
  refine z_aload_n X d_lw_2171 rfl 3 rfl ?_
  refine sx_callF (x := x) (oa := o) (rm := { frames := 7, cells := 1, slots := 6, locals := 103 }) (rest := []) (As := [.ref (x), .int (xs (i + 1).toNatClampNeg), .ref (o)]) X k_L_228 hE (fun ad w0 h1 h2 h3 => by rw [← h3]; exact cl_row l hst G h1 h2 _ o f) hx d_lw_2172 ⟨by decide, by decide⟩ ⟨hc, hs⟩ rfl rfl (by decide) rfl (fun v wx' f' hx' hl' hfx => ?_)
  refine z_istore X d_lw_2175 (by decide) (lv' := [(5, .int (v)), (0, .ref (b)), (1, .ref (x)), (2, .ref (y)), (3, .ref (o)), (4, .int (i))]) rfl ?_
  refine z_aload_n X d_lw_2177 rfl 3 rfl ?_
  refine z_aload_n X d_lw_2178 rfl 1 rfl ?_
  refine z_iload X d_lw_2179 5 rfl ?_
  refine z_iconst X d_lw_2181 (v := 1) (by decide) ?_
  refine z_iadd X d_lw_2182 ?_
  refine z_sld X hX hbl hbA (lw_in hi0 hi1 (k := 1) (by decide) (by decide)) d_lw_2183 (v := xs (i + 1).toNatClampNeg) rfl ?_
  refine mx_callF (k := 1) (wa := wx') (rest := []) (As := [.int (xs (i + 1).toNatClampNeg)]) (μ := (fun k => ((Value.ref y :: [.int (xs (i + 1).toNatClampNeg)])[k]?).getD .null)) X k_L_231 (ac_X11_row_0 l G) (by decide) (by decide) hy (fun ad w0 he => pre_mu (C := C_X11_row_0) (ts := [tI0]) (As := [.int (xs (i + 1).toNatClampNeg)]) rfl rfl rfl rfl ⟨fun _ => vty_i0 _, trivial⟩ ad w0 he) rfl d_lw_2184 ⟨by decide, by decide⟩ ⟨hc, hs⟩ rfl rfl (Nat.le_of_ble_eq_true rfl) rfl (fun r wm' hr hy' hfm => ?_)
  rcases hr with ⟨h, -⟩ | ⟨h, -⟩ | ⟨-, v2, rfl⟩
  all_goals first | (exact absurd h (by decide)) | skip
  refine z_lstore X d_lw_2187 (by decide) (lv' := [(6, .long (v2)), (5, .int (v)), (0, .ref (b)), (1, .ref (x)), (2, .ref (y)), (3, .ref (o)), (4, .int (i))]) rfl ?_
  refine z_goto X d_lw_2189 (tgt := 2192) (by decide) ?_
  exact Z.mono (fun q hq => by simp only [List.mem_cons, List.not_mem_nil, or_false] at hq ⊢; rcases hq with h | h | h | h | h <;> simp [h]) (hK wx' wm' f' hx' hl' hy' (RelQ.of (hR.m.keep hfx hfm (by decide)) (hR.a.keep hfx hfm (by decide)) (hR.d.keep hfx hfm (by decide)) (hR.c.keep hfx hfm (by decide)) (hR.x.keep hfx hfm (by decide)) (hR.b.keep hfx hfm (by decide)) (hR.h.keep hfx hfm (by decide)) (hR.t.keep hfx hfm (by decide)) (hR.k.keep hfx hfm (by decide))))
end LWC
