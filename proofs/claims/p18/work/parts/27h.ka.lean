/-! the pulls that make another size, dropped -/
abbrev rm_ka : Room := { frames := 1, cells := 0, slots := 0, locals := 21 }
section KAS
variable {p : Program} {l : Launch} {e : Env} {s : State} {m : MethodId} {args : Array Value} {below : List Frame} {meth : Method} {c : Code} {G : KG} {A : Nat → Prop} {ad : Nat → Nat} {w0 : va_W}
theorem ka_loop {sz : Int64} {n : Int32} (X : ZC p s m args meth c cX3_keepAlike 7 RX3 G A none "keepAlike") (n1 : n.toInt ≤ 14641) : ∀ (N : Nat) (le i : Int32) (ws : va_W), GAw G ad w0 n ws → 0 ≤ le.toInt → le.toInt ≤ i.toInt → i.toInt ≤ n.toInt → (n.toInt - i.toInt).toNat < N → Z p l e rm_ka s m args below meth c 7 G A (MQ below (QQ G A (GApo G ad w0)) args s 0 0 A) 23 [(0, .ref (ad 109)), (3, .long sz), (5, .int le), (6, .int i)] [] ws 0 0
  | 0, _, _, _, _, _, _, _, h9 => absurd h9 (Nat.not_lt_zero _)
  | N + 1, le, i, ws, hB, l0, l1, i1, h9 => by
    refine z_iload X d_ka_23 3 rfl ?_
    refine z_aload_n X d_ka_25 rfl 0 rfl ?_
    refine hget (T := TXP) X hB.1 (idx := 32) (fld_3_ok _ (by decide : (32, 3, 0) ∈ fld_3)) d_ka_26 rfl (hB.2.2.2) ?_
    refine zc_ge X d_ka_29 (tgt := 71) (by decide) (a := i.toInt) (b := n.toInt) rfl rfl (fun hge => ?_) (fun hlt => ?_)
    · skip
      refine z_aload_n X d_ka_71 rfl 0 rfl ?_
      refine z_iload X d_ka_72 2 rfl ?_
      obtain ⟨fs, o1, o2, hB4⟩ := hB.cnt (v := le) l0 (by omega)
      refine put_row (ad := ad) X (put_3_ok (32, 3, 0, 0) (by decide)) (t := (0, 0, 14641)) (by decide) d_ka_74 o1 o2 (vty_i l0 (by show le.toInt ≤ 14641; omega)) ?_
      exact z_vret X rfl d_ka_77 (Nat.le_refl 0) (Nat.le_refl 0) ⟨rfl, hB4.1, hB4.2.1, hB4.2.2.1⟩
    have on : ∀ (le2 : Int32) (w2 : va_W), GAw G ad w0 n w2 → 0 ≤ le2.toInt → le2.toInt ≤ i.toInt + 1 → Z p l e rm_ka s m args below meth c 7 G A (MQ below (QQ G A (GApo G ad w0)) args s 0 0 A) 65 [(0, .ref (ad 109)), (3, .long sz), (5, .int le2), (6, .int i)] [] w2 0 0 := by
      intro le2 w2 hB2 q0 q1
      refine z_iinc X d_ka_65 (k := 3) rfl rfl (by decide) (lv' := [(6, .int (i + Int32.ofInt (1))), (0, .ref (ad 109)), (3, .long (sz)), (5, .int (le2))]) rfl ?_
      refine z_goto X d_ka_68 (tgt := 23) (by decide) ?_
      have e1 : (i + Int32.ofInt 1).toInt = i.toInt + 1 := tI_add rfl (show (Int32.ofInt 1).toInt = 1 by decide) (by omega)
      exact Z.mono (fun q hq => by simp only [List.mem_cons, List.not_mem_nil, or_false] at hq ⊢; rcases hq with h | h | h | h <;> simp [h]) (ka_loop (sz := sz) X n1 N le2 (i + Int32.ofInt 1) w2 hB2 q0 (by omega) (by omega) (by omega))
    obtain ⟨b, f, f1, f2⟩ := hB.2.2.1
    have f1 : ws[111]? = some (ad 111, aI G 14641 f) := by
      have g9 := f1
      rw [WT.adr (T := TXP) hB.1 rfl f1] at g9
      exact g9
    have vi : vp_in i 14641 := vp_of (by omega) (by omega)
    have vl : vp_in le 14641 := vp_of l0 (by omega)
    have hgi := f2 i.toNatClampNeg (by have e9 : i.toNatClampNeg = i.toInt.toNat := rfl; omega)
    refine z_aload_n X d_ka_32 rfl 0 rfl ?_
    refine z_aload_n X d_ka_33 rfl 0 rfl ?_
    refine hget (T := TXP) X hB.1 (idx := 15) (fld_3_ok _ (by decide : (15, 3, 4) ∈ fld_3)) d_ka_34 rfl (fget_ref hB.1 rfl rfl) ?_
    refine z_iload X d_ka_37 3 rfl ?_
    refine z_iald X d_ka_39 111 (f1) (vi) rfl ?_
    refine hcallV (T := TXP) (k := 109) (rest := []) (avs := [.int (f i.toNatClampNeg)]) X k_3_42 (ac_sizeMade l G hB.1 hgi) d_ka_40 hB.1 rfl rfl rfl rfl ⟨by decide, by decide⟩ ⟨Nat.le_refl 0, Nat.le_refl 0⟩ (by decide) rfl (fun r w1 hp => ?_)
    obtain ⟨hw, v, rfl⟩ := hp
    subst hw
    refine z_lload_n X d_ka_43 rfl 1 rfl ?_
    refine zl_ne X d_ka_44 d_ka_45 (tgt := 65) (by decide) (a := v.toInt) (b := sz.toInt) rfl rfl (fun _ => on le w1 hB l0 (by omega)) (fun _ => ?_)
    obtain ⟨f', f1', hB3⟩ := hB.put (v := f i.toNatClampNeg) hgi le.toNatClampNeg
    have ef : f' = f := by
      rw [f1] at f1'
      exact (Sum.inl.inj (congrArg (fun z : ClassId × vp_A => z.2.2) (Sum.inl.inj (congrArg Prod.snd (Option.some.inj f1'))))).symm
    subst ef
    refine z_aload_n X d_ka_48 rfl 0 rfl ?_
    refine hget (T := TXP) X hB.1 (idx := 15) (fld_3_ok _ (by decide : (15, 3, 4) ∈ fld_3)) d_ka_49 rfl (fget_ref hB.1 rfl rfl) ?_
    refine z_iload X d_ka_52 2 rfl ?_
    refine z_aload_n X d_ka_54 rfl 0 rfl ?_
    refine hget (T := TXP) X hB.1 (idx := 15) (fld_3_ok _ (by decide : (15, 3, 4) ∈ fld_3)) d_ka_55 rfl (fget_ref hB.1 rfl rfl) ?_
    refine z_iload X d_ka_58 3 rfl ?_
    refine z_iald X d_ka_60 111 (f1) (vi) rfl ?_
    refine z_iast X d_ka_61 111 (f1) (vl) rfl ?_
    generalize hgen : w1.set 111 (ad 111, aI G 14641 (upd f' le.toNatClampNeg (f' i.toNatClampNeg))) = w3 at hB3
    refine z_iinc X d_ka_62 (k := 2) rfl rfl (by decide) (lv' := [(5, .int (le + Int32.ofInt (1))), (0, .ref (ad 109)), (3, .long (sz)), (6, .int (i))]) rfl ?_
    have e2 : (le + Int32.ofInt 1).toInt = le.toInt + 1 := tI_add rfl (show (Int32.ofInt 1).toInt = 1 by decide) (by omega)
    exact Z.mono (fun q hq => by simp only [List.mem_cons, List.not_mem_nil, or_false] at hq ⊢; rcases hq with h | h | h | h <;> simp [h]) (on (le + Int32.ofInt 1) w3 hB3 (by omega) (by omega))
end KAS
theorem ac_keepAlike (l : Launch) (G : KG) {ad : Nat → Nat} {w0 : va_W} (hW : WT G ad TXP w0) (hG : GC G w0) {x y : Int32} (x0 : -60 ≤ x.toInt) (x1 : x.toInt ≤ 60) (y0 : -60 ≤ y.toInt) (y1 : y.toInt ≤ 60) : Ct l G yX3_keepAlike cX3_keepAlike 7 none rm_ka [.ref (ad 109), .int x, .int y] w0 (GApo G ad w0) := by
  refine ct_of [(0, .ref (ad 109)), (1, .int x), (2, .int y)] (by decide) (Nat.le_of_ble_eq_true rfl) rfl ?_
  intro p e s m args below meth c A X
  obtain ⟨n, hn, n0, n1⟩ := fget_int (T := TXP) (k := 109) (j := 0) hW rfl rfl
  have hB : GAw G ad w0 n w0 := ⟨hW, ⟨rfl, fun _ _ _ => rfl⟩, hG, hn⟩
  have ex : (x + 60).toInt = x.toInt + 60 := tI_add rfl rfl (by omega)
  have ey : (y + 60).toInt = y.toInt + 60 := tI_add rfl rfl (by omega)
  have hg := mkcode (i := x + 60) (j := y + 60) (by omega) (by omega) (by omega) (by omega)
  refine z_aload_n X d_ka_0 rfl 0 rfl ?_
  refine z_iload_n X d_ka_1 rfl 1 rfl ?_
  refine z_bipush X d_ka_2 (v := 60) (by decide) ?_
  refine z_iadd X d_ka_4 ?_
  refine z_bipush X d_ka_5 (v := 7) (by decide) ?_
  refine z_ishl X d_ka_7 ?_
  refine z_iload_n X d_ka_8 rfl 2 rfl ?_
  refine z_bipush X d_ka_9 (v := 60) (by decide) ?_
  refine z_iadd X d_ka_11 ?_
  refine z_ior X d_ka_12 ?_
  refine hcallV (T := TXP) (k := 109) (rest := []) (avs := [.int (((x + 60) <<< ((7 : Int32) &&& 31)) ||| (y + 60))]) X k_3_42 (ac_sizeMade l G hW hg) d_ka_13 hW rfl rfl rfl rfl ⟨by decide, by decide⟩ ⟨Nat.le_refl 0, Nat.le_refl 0⟩ (by decide) rfl (fun r w1 hp => ?_)
  obtain ⟨hw, v, rfl⟩ := hp
  subst hw
  refine z_lstore_n X d_ka_16 rfl (by decide) (lv' := [(3, .long (v)), (0, .ref (ad 109)), (1, .int (x)), (2, .int (y))]) rfl ?_
  refine z_iconst X d_ka_17 (v := 0) (by decide) ?_
  refine z_istore X d_ka_18 (by decide) (lv' := [(5, .int ((0 : Int32))), (3, .long (v)), (0, .ref (ad 109)), (1, .int (x)), (2, .int (y))]) rfl ?_
  refine z_iconst X d_ka_20 (v := 0) (by decide) ?_
  refine z_istore X d_ka_21 (by decide) (lv' := [(6, .int ((0 : Int32))), (5, .int ((0 : Int32))), (3, .long (v)), (0, .ref (ad 109)), (1, .int (x)), (2, .int (y))]) rfl ?_
  exact Z.mono (fun q hq => by simp only [List.mem_cons, List.not_mem_nil, or_false] at hq ⊢; rcases hq with h | h | h | h <;> simp [h]) (ka_loop (sz := v) X n1 _ 0 0 w1 hB (by decide) (by decide) n0 (Nat.lt_succ_self _))
