/-! the reference's round -/
section RNS
variable {p : Program} {l : Launch} {e : Env} {s : State} {m : MethodId} {args : Array Value} {below : List Frame} {meth : Method} {c : Code} {G : KG} {A : Nat → Prop} {ad : Nat → Nat} {w0 : va_W} {μ : Nat → Value}
theorem set_self {ws : va_W} {k : Nat} {q : Nat × va_E} (h : ws[k]? = some q) : ws.set k q = ws := by
  refine List.ext_getElem? (fun i => ?_)
  rcases Nat.decEq k i with hk | hk
  · exact set_other hk
  · subst hk; rw [set_same h, h]
def CSf (wt a h : Nat → Int32) : Nat → Int64
  | 0 => 0
  | n + 1 => CSf wt a h n + (wt (a n).toNatClampNeg * h n).toInt64
def SZ (wt hx hy a : Nat → Int32) (n : Nat) : Int64 := CSf wt a hx n * CSf wt a hx n + CSf wt a hy n * CSf wt a hy n
def swp (a : Nat → Int32) (i j : Int32) : Nat → Int32 := upd (upd a i.toNatClampNeg (a j.toNatClampNeg)) j.toNatClampNeg (a i.toNatClampNeg)
theorem swp_swp (a : Nat → Int32) (i j : Int32) : swp (swp a i j) i j = a := by
  funext n
  unfold swp upd
  by_cases h1 : n = j.toNatClampNeg
  · rw [if_pos h1]
    by_cases h2 : i.toNatClampNeg = j.toNatClampNeg
    · rw [if_pos h2, h1, h2]
    · rw [if_neg h2, if_pos rfl, h1]
  · rw [if_neg h1]
    by_cases h2 : n = i.toNatClampNeg
    · rw [if_pos h2, if_pos rfl, h2]
    · rw [if_neg h2, if_neg h1, if_neg h2]
/-- what is known of the world -/
def CKw (G : KG) (ad : Nat → Nat) (hn : Int32) (wt hx hy a : Nat → Int32) (ws : va_W) : Prop := WT G ad TM ws ∧ fget ws 0 16 = some (.int hn) ∧ ws[13]? = some (ad 13, aI G 8 wt) ∧ ws[43]? = some (ad 43, aI G 8 a) ∧ ws[3]? = some (ad 3, aI G 16 hx) ∧ ws[4]? = some (ad 4, aI G 16 hy) ∧ 0 ≤ hn.toInt ∧ hn.toInt ≤ 8 ∧ ∀ k, k < 8 → 0 ≤ (a k).toInt ∧ (a k).toInt ≤ 7
theorem CKw.put {hn : Int32} {wt hx hy a : Nat → Int32} {ws : va_W} (h : CKw G ad hn wt hx hy a ws) (j : Nat) {v : Int32} (v0 : 0 ≤ v.toInt) (v1 : v.toInt ≤ 7) : CKw G ad hn wt hx hy (upd a j v) (ws.set 43 (ad 43, aI G 8 (upd a j v))) := by
  obtain ⟨h1, h2, h3, h4, h5, h6, h7, h8, h9⟩ := h
  refine ⟨WT.wr h1 rfl h4 v0 v1, by rw [fget_arr_eq h4]; exact h2, by rw [set_other (by decide)]; exact h3, set_same h4, by rw [set_other (by decide)]; exact h5, by rw [set_other (by decide)]; exact h6, h7, h8, fun k hk => ?_⟩
  unfold upd
  split
  · exact ⟨v0, v1⟩
  · exact h9 k hk
theorem CKw.el {hn : Int32} {wt hx hy a : Nat → Int32} {ws : va_W} (h : CKw G ad hn wt hx hy a ws) {i : Int32} (h0 : 0 ≤ i.toInt) (h1 : i.toInt < 8) : vp_in (a i.toNatClampNeg) 8 := by
  have e : i.toNatClampNeg = i.toInt.toNat := rfl
  have := h.2.2.2.2.2.2.2.2 i.toNatClampNeg (by omega)
  exact vp_of this.1 (by omega)
theorem CKw.swp {hn : Int32} {wt hx hy a : Nat → Int32} {ws : va_W} (h : CKw G ad hn wt hx hy a ws) {i j : Int32} (i0 : 0 ≤ i.toInt) (i1 : i.toInt < 8) (j0 : 0 ≤ j.toInt) (j1 : j.toInt < 8) : CKw G ad hn wt hx hy (swp a i j) (ws.set 43 (ad 43, aI G 8 (swp a i j))) := by
  have ei : i.toNatClampNeg = i.toInt.toNat := rfl
  have ej : j.toNatClampNeg = j.toInt.toNat := rfl
  have a1 := h.2.2.2.2.2.2.2.2 i.toNatClampNeg (by omega)
  have a2 := h.2.2.2.2.2.2.2.2 j.toNatClampNeg (by omega)
  have b1 := h.put i.toNatClampNeg a2.1 a2.2
  have b2 := b1.put j.toNatClampNeg a1.1 a1.2
  rw [List.set_set] at b2
  exact b2
theorem ac_sizeH (l : Launch) (G : KG) (x y : Int64) (w0 : va_W) : Ct l G yX11_size cX11_size 4 (some .long) rm_0 [.long x, .long y] w0 (fun r w1 => w1 = w0 ∧ r = some (.long (x * x + y * y))) := by
  refine ct_of [(0, .long x), (2, .long y)] (by decide) (Nat.le_of_ble_eq_true rfl) rfl ?_
  intro p e s m args below meth c A X
  refine z_lload_n X d_sz_0 rfl 0 rfl ?_
  refine z_lload_n X d_sz_1 rfl 0 rfl ?_
  refine z_lmul X d_sz_2 ?_
  refine z_lload_n X d_sz_3 rfl 1 rfl ?_
  refine z_lload_n X d_sz_4 rfl 1 rfl ?_
  refine z_lmul X d_sz_5 ?_
  refine z_ladd X d_sz_6 ?_
  exact z_lret X rfl d_sz_7 (Nat.le_refl 0) (Nat.le_refl 0) ⟨rfl, rfl⟩
theorem ac_exch (l : Launch) (G : KG) {ad : Nat → Nat} {hn : Int32} {wt hx hy a : Nat → Int32} {ws : va_W} (hB : CKw G ad hn wt hx hy a ws) {i j : Int32} (i0 : 0 ≤ i.toInt) (i1 : i.toInt < 8) (j0 : 0 ≤ j.toInt) (j1 : j.toInt < 8) : Ct l G yX11_exchanges cX11_exchanges 4 none rm_0 [.ref (ad 0), .int i, .int j] ws (fun r w1 => w1 = ws.set 43 (ad 43, aI G 8 (swp a i j)) ∧ r = none) := by
  refine ct_of [(0, .ref (ad 0)), (1, .int i), (2, .int j)] (by decide) (Nat.le_of_ble_eq_true rfl) rfl ?_
  intro p e s m args below meth c A X
  have vi : vp_in i 8 := vp_of i0 i1
  have vj : vp_in j 8 := vp_of j0 j1
  refine z_aload_n X d_xg_0 rfl 0 rfl ?_
  refine hget (T := TM) X hB.1 (idx := 459) (fld_11_ok _ (by decide : (459, 11, 68) ∈ fld_11)) d_xg_1 rfl (fget_ref hB.1 rfl rfl) ?_
  refine z_iload_n X d_xg_4 rfl 1 rfl ?_
  refine z_iald X d_xg_5 43 (hB.2.2.2.1) (vi) rfl ?_
  refine z_istore_n X d_xg_6 rfl (by decide) (lv' := [(3, .int (a (i).toNatClampNeg)), (0, .ref (ad 0)), (1, .int (i)), (2, .int (j))]) rfl ?_
  refine z_aload_n X d_xg_7 rfl 1 rfl ?_
  refine hget (T := TM) X hB.1 (idx := 459) (fld_11_ok _ (by decide : (459, 11, 68) ∈ fld_11)) d_xg_8 rfl (fget_ref hB.1 rfl rfl) ?_
  refine z_iload_n X d_xg_11 rfl 2 rfl ?_
  refine z_aload_n X d_xg_12 rfl 1 rfl ?_
  refine hget (T := TM) X hB.1 (idx := 459) (fld_11_ok _ (by decide : (459, 11, 68) ∈ fld_11)) d_xg_13 rfl (fget_ref hB.1 rfl rfl) ?_
  refine z_iload_n X d_xg_16 rfl 3 rfl ?_
  refine z_iald X d_xg_17 43 (hB.2.2.2.1) (vj) rfl ?_
  refine z_iast X d_xg_18 43 (hB.2.2.2.1) (vi) rfl ?_
  have ej : j.toNatClampNeg = j.toInt.toNat := rfl
  have aj := hB.2.2.2.2.2.2.2.2 j.toNatClampNeg (by omega)
  have hB2 := hB.put i.toNatClampNeg aj.1 aj.2
  refine z_aload_n X d_xg_19 rfl 1 rfl ?_
  refine hget (T := TM) X hB2.1 (idx := 459) (fld_11_ok _ (by decide : (459, 11, 68) ∈ fld_11)) d_xg_20 rfl (fget_ref hB2.1 rfl rfl) ?_
  refine z_iload_n X d_xg_23 rfl 3 rfl ?_
  refine z_iload_n X d_xg_24 rfl 0 rfl ?_
  refine z_iast X d_xg_25 43 (hB2.2.2.2.1) (vj) rfl ?_
  refine z_vret X rfl d_xg_26 (Nat.le_refl 0) (Nat.le_refl 0) ⟨?_, rfl⟩
  rw [List.set_set]
  rfl
theorem cs_loop {hn : Int32} {wt hx hy a : Nat → Int32} {ws : va_W} (X : ZC p s m args meth c cX11_cogSize 6 RX11 G A (some .long) "cogSize") (hB : CKw G ad hn wt hx hy a ws) : ∀ (n : Nat) (i : Int32), 0 ≤ i.toInt → i.toInt ≤ hn.toInt → (hn.toInt - i.toInt).toNat < n → Z p l e rm_cs s m args below meth c 6 G A (MQ below (QQ G A (fun r w1 => w1 = ws ∧ r = some (.long (SZ wt hx hy a hn.toInt.toNat)))) args s 0 0 A) 7 [(0, .ref (ad 0)), (1, .long (CSf wt a hx i.toInt.toNat)), (3, .long (CSf wt a hy i.toInt.toNat)), (5, .int i)] [] ws 0 0
  | 0, _, _, _, h9 => absurd h9 (Nat.not_lt_zero _)
  | n + 1, i, i0, i1, h9 => by
    have b0 := hB.2.2.2.2.2.2.1
    have b1 := hB.2.2.2.2.2.2.2.1
    refine z_iload X d_cs_7 3 rfl ?_
    refine z_aload_n X d_cs_9 rfl 0 rfl ?_
    refine hget (T := TM) X hB.1 (idx := 101) (fld_11_ok _ (by decide : (101, 11, 16) ∈ fld_11)) d_cs_10 rfl (hB.2.1) ?_
    refine zc_ge X d_cs_13 (tgt := 70) (by decide) (a := i.toInt) (b := hn.toInt) rfl rfl (fun hge => ?_) (fun hlt => ?_)
    · have ei : i.toInt = hn.toInt := by omega
      rw [ei]
      refine z_lload_n X d_cs_70 rfl 1 rfl ?_
      refine z_lload_n X d_cs_71 rfl 2 rfl ?_
      refine wide_callS (rest := []) X k_11_184 (ac_sizeH l G _ _ _) d_cs_72 ⟨by decide, by decide⟩ ⟨Nat.le_refl 0, Nat.le_refl 0⟩ rfl rfl (by decide) (fun r w1 hp => ?_)
      obtain ⟨rfl, rfl⟩ := hp
      exact z_lret X rfl d_cs_75 (Nat.le_refl 0) (Nat.le_refl 0) ⟨rfl, rfl⟩
    have v8 : vp_in i 8 := vp_of i0 (by omega)
    have v16 : vp_in i 16 := vp_of i0 (by omega)
    have ve : vp_in (a i.toNatClampNeg) 8 := hB.el i0 (by omega)
    refine z_lload_n X d_cs_16 rfl 1 rfl ?_
    refine z_aload_n X d_cs_17 rfl 0 rfl ?_
    refine hget (T := TM) X hB.1 (idx := 104) (fld_11_ok _ (by decide : (104, 11, 17) ∈ fld_11)) d_cs_18 rfl (fget_ref hB.1 rfl rfl) ?_
    refine z_aload_n X d_cs_21 rfl 0 rfl ?_
    refine hget (T := TM) X hB.1 (idx := 459) (fld_11_ok _ (by decide : (459, 11, 68) ∈ fld_11)) d_cs_22 rfl (fget_ref hB.1 rfl rfl) ?_
    refine z_iload X d_cs_25 3 rfl ?_
    refine z_iald X d_cs_27 43 (hB.2.2.2.1) (v8) rfl ?_
    refine z_iald X d_cs_28 13 (hB.2.2.1) (ve) rfl ?_
    refine z_aload_n X d_cs_29 rfl 0 rfl ?_
    refine hget (T := TM) X hB.1 (idx := 69) (fld_11_ok _ (by decide : (69, 11, 5) ∈ fld_11)) d_cs_30 rfl (fget_ref hB.1 rfl rfl) ?_
    refine z_iload X d_cs_33 3 rfl ?_
    refine z_iald X d_cs_35 3 (hB.2.2.2.2.1) (v16) rfl ?_
    refine z_imul X d_cs_36 ?_
    refine z_i2l X d_cs_37 rfl ?_
    refine z_ladd X d_cs_38 ?_
    refine z_lstore_n X d_cs_39 rfl (by decide) (lv' := [(1, .long (((CSf wt a hx i.toInt.toNat) + ((((wt (a (i).toNatClampNeg).toNatClampNeg) * (hx (i).toNatClampNeg))).toInt64)))), (0, .ref (ad 0)), (3, .long (CSf wt a hy i.toInt.toNat)), (5, .int (i))]) rfl ?_
    refine z_lload_n X d_cs_40 rfl 2 rfl ?_
    refine z_aload_n X d_cs_41 rfl 1 rfl ?_
    refine hget (T := TM) X hB.1 (idx := 104) (fld_11_ok _ (by decide : (104, 11, 17) ∈ fld_11)) d_cs_42 rfl (fget_ref hB.1 rfl rfl) ?_
    refine z_aload_n X d_cs_45 rfl 1 rfl ?_
    refine hget (T := TM) X hB.1 (idx := 459) (fld_11_ok _ (by decide : (459, 11, 68) ∈ fld_11)) d_cs_46 rfl (fget_ref hB.1 rfl rfl) ?_
    refine z_iload X d_cs_49 3 rfl ?_
    refine z_iald X d_cs_51 43 (hB.2.2.2.1) (v8) rfl ?_
    refine z_iald X d_cs_52 13 (hB.2.2.1) (ve) rfl ?_
    refine z_aload_n X d_cs_53 rfl 1 rfl ?_
    refine hget (T := TM) X hB.1 (idx := 76) (fld_11_ok _ (by decide : (76, 11, 6) ∈ fld_11)) d_cs_54 rfl (fget_ref hB.1 rfl rfl) ?_
    refine z_iload X d_cs_57 3 rfl ?_
    refine z_iald X d_cs_59 4 (hB.2.2.2.2.2.1) (v16) rfl ?_
    refine z_imul X d_cs_60 ?_
    refine z_i2l X d_cs_61 rfl ?_
    refine z_ladd X d_cs_62 ?_
    refine z_lstore_n X d_cs_63 rfl (by decide) (lv' := [(3, .long (((CSf wt a hy i.toInt.toNat) + ((((wt (a (i).toNatClampNeg).toNatClampNeg) * (hy (i).toNatClampNeg))).toInt64)))), (1, .long (((CSf wt a hx i.toInt.toNat) + ((((wt (a (i).toNatClampNeg).toNatClampNeg) * (hx (i).toNatClampNeg))).toInt64)))), (0, .ref (ad 0)), (5, .int (i))]) rfl ?_
    refine z_iinc X d_cs_64 (k := 3) rfl rfl (by decide) (lv' := [(5, .int (i + Int32.ofInt (1))), (3, .long (((CSf wt a hy i.toInt.toNat) + ((((wt (a (i).toNatClampNeg).toNatClampNeg) * (hy (i).toNatClampNeg))).toInt64)))), (1, .long (((CSf wt a hx i.toInt.toNat) + ((((wt (a (i).toNatClampNeg).toNatClampNeg) * (hx (i).toNatClampNeg))).toInt64)))), (0, .ref (ad 0))]) rfl ?_
    refine z_goto X d_cs_67 (tgt := 7) (by decide) ?_
    have e1 : (i + Int32.ofInt 1).toInt = i.toInt + 1 := tI_add rfl (show (Int32.ofInt 1).toInt = 1 by decide) (by omega)
    have eN : (i + Int32.ofInt 1).toInt.toNat = i.toInt.toNat + 1 := by omega
    have ei : i.toNatClampNeg = i.toInt.toNat := rfl
    have g1 : ∀ h : Nat → Int32, CSf wt a h i.toInt.toNat + (wt (a i.toNatClampNeg).toNatClampNeg * h i.toNatClampNeg).toInt64 = CSf wt a h (i + Int32.ofInt 1).toInt.toNat := fun h => by rw [eN, ei]; rfl
    have := cs_loop X hB n (i + Int32.ofInt 1) (by omega) (by omega) (by omega)
    rw [← g1 hx, ← g1 hy] at this
    exact Z.mono (fun q hq => by simp only [List.mem_cons, List.not_mem_nil, or_false] at hq ⊢; rcases hq with h | h | h | h <;> simp [h]) this
theorem ac_cogSizeH (l : Launch) (G : KG) {ad : Nat → Nat} {hn : Int32} {wt hx hy a : Nat → Int32} {ws : va_W} (hB : CKw G ad hn wt hx hy a ws) : Ct l G yX11_cogSize cX11_cogSize 6 (some .long) rm_cs [.ref (ad 0)] ws (fun r w1 => w1 = ws ∧ r = some (.long (SZ wt hx hy a hn.toInt.toNat))) := by
  refine ct_of [(0, .ref (ad 0))] (by decide) (Nat.le_of_ble_eq_true rfl) rfl ?_
  intro p e s m args below meth c A X
  have b0 := hB.2.2.2.2.2.2.1
  refine z_lconst X d_cs_0 (v := 0) (by decide) ?_
  refine z_lstore_n X d_cs_1 rfl (by decide) (lv' := [(1, .long ((0 : Int64))), (0, .ref (ad 0))]) rfl ?_
  refine z_lconst X d_cs_2 (v := 0) (by decide) ?_
  refine z_lstore_n X d_cs_3 rfl (by decide) (lv' := [(3, .long ((0 : Int64))), (1, .long ((0 : Int64))), (0, .ref (ad 0))]) rfl ?_
  refine z_iconst X d_cs_4 (v := 0) (by decide) ?_
  refine z_istore X d_cs_5 (by decide) (lv' := [(5, .int ((0 : Int32))), (3, .long ((0 : Int64))), (1, .long ((0 : Int64))), (0, .ref (ad 0))]) rfl ?_
  exact Z.mono (fun q hq => by simp only [List.mem_cons, List.not_mem_nil, or_false] at hq ⊢; rcases hq with h | h | h | h <;> simp [h, show ∀ g : Nat → Int32, CSf wt a g 0 = 0 from fun _ => rfl]) (cs_loop X hB _ 0 (by decide) b0 (Nat.lt_succ_self _))
abbrev RNpo (G : KG) (ad : Nat → Nat) (w0 : va_W) (μ : Nat → Value) : Option Value → va_W → Prop := fun r w1 => POST G ad TM C_round μ w0 r w1
def RNi (hn : Int32) (wt hx hy a : Nat → Int32) (le : Int64) (fi se : Int32) : Prop := (fi.toInt = -1 ∧ le = SZ wt hx hy a hn.toInt.toNat) ∨ (0 ≤ fi.toInt ∧ fi.toInt < 8 ∧ 0 ≤ se.toInt ∧ se.toInt < 8 ∧ le = SZ wt hx hy (swp a fi se) hn.toInt.toNat ∧ le.toInt < (SZ wt hx hy a hn.toInt.toNat).toInt)
theorem RNi.le {hn : Int32} {wt hx hy a : Nat → Int32} {le : Int64} {fi se : Int32} (h : RNi hn wt hx hy a le fi se) : le.toInt ≤ (SZ wt hx hy a hn.toInt.toNat).toInt := by
  rcases h with ⟨-, h⟩ | ⟨-, -, -, -, -, h⟩
  · rw [h]; exact Int.le_refl _
  · exact Int.le_of_lt h
theorem rn_inner {hn cn i : Int32} {wt hx hy a : Nat → Int32} {ws : va_W} (X : ZC p s m args meth c cX11_round 9 RX11 G A (some .int) "round") (hB : CKw G ad hn wt hx hy a ws) (i0 : 0 ≤ i.toInt) (i1 : i.toInt < hn.toInt)
    (hK : ∀ (le : Int64) (fi se : Int32), RNi hn wt hx hy a le fi se → Z p l e (rmOf C_round) s m args below meth c 9 G A (MQ below (QQ G A (RNpo G ad w0 μ)) args s 0 0 A) 108 [(0, .ref (ad 0)), (1, .int cn), (3, .long le), (5, .int fi), (6, .int se), (7, .int i)] [] ws 0 0) :
    ∀ (n : Nat) (j : Int32) (le : Int64) (fi se : Int32), RNi hn wt hx hy a le fi se → 0 ≤ j.toInt → j.toInt ≤ hn.toInt → (hn.toInt - j.toInt).toNat < n → Z p l e (rmOf C_round) s m args below meth c 9 G A (MQ below (QQ G A (RNpo G ad w0 μ)) args s 0 0 A) 55 [(0, .ref (ad 0)), (1, .int cn), (3, .long le), (5, .int fi), (6, .int se), (7, .int i), (8, .int j)] [] ws 0 0
  | 0, _, _, _, _, _, _, _, h9 => absurd h9 (Nat.not_lt_zero _)
  | n + 1, j, le, fi, se, hI, j0, j1, h9 => by
    have b1 := hB.2.2.2.2.2.2.2.1
    refine z_iload X d_rn_55 6 rfl ?_
    refine z_aload_n X d_rn_57 rfl 0 rfl ?_
    refine hget (T := TM) X hB.1 (idx := 101) (fld_11_ok _ (by decide : (101, 11, 16) ∈ fld_11)) d_rn_58 rfl (hB.2.1) ?_
    refine zc_ge X d_rn_61 (tgt := 108) (by decide) (a := j.toInt) (b := hn.toInt) rfl rfl (fun hge => Z.mono (fun q hq => by simp only [List.mem_cons, List.not_mem_nil, or_false] at hq ⊢; rcases hq with h | h | h | h | h | h <;> simp [h]) (hK le fi se hI)) (fun hlt => ?_)
    refine z_aload_n X d_rn_64 rfl 0 rfl ?_
    refine z_iload X d_rn_65 5 rfl ?_
    refine z_iload X d_rn_67 6 rfl ?_
    refine hcallV (T := TM) (k := 0) (rest := []) (avs := [.int i, .int j]) X k_11_483 (ac_exch l G hB i0 (by omega) j0 (by omega)) d_rn_69 hB.1 rfl rfl rfl rfl ⟨by decide, by decide⟩ ⟨Nat.le_refl 0, Nat.le_refl 0⟩ (by decide) rfl (fun r w1 hp => ?_)
    obtain ⟨hw1, rfl⟩ := hp
    have hB1 : CKw G ad hn wt hx hy (swp a i j) w1 := by rw [hw1]; exact hB.swp i0 (by omega) j0 (by omega)
    refine z_aload_n X d_rn_72 rfl 0 rfl ?_
    refine hcallV (T := TM) (k := 0) (rest := []) (avs := []) X k_11_468 (ac_cogSizeH l G hB1) d_rn_73 hB1.1 rfl rfl rfl rfl ⟨by decide, by decide⟩ ⟨Nat.le_refl 0, Nat.le_refl 0⟩ (by decide) rfl (fun r w2 hp => ?_)
    obtain ⟨hw2, rfl⟩ := hp
    subst hw2
    refine z_lload_n X d_rn_76 rfl 2 rfl ?_
    have back : ∀ (le2 : Int64) (fi2 se2 : Int32), RNi hn wt hx hy a le2 fi2 se2 → Z p l e (rmOf C_round) s m args below meth c 9 G A (MQ below (QQ G A (RNpo G ad w0 μ)) args s 0 0 A) 94 [(0, .ref (ad 0)), (1, .int cn), (3, .long le2), (5, .int fi2), (6, .int se2), (7, .int i), (8, .int j)] [] w2 0 0 := by
      intro le2 fi2 se2 hI2
      refine z_aload_n X d_rn_94 rfl 0 rfl ?_
      refine z_iload X d_rn_95 5 rfl ?_
      refine z_iload X d_rn_97 6 rfl ?_
      refine hcallV (T := TM) (k := 0) (rest := []) (avs := [.int i, .int j]) X k_11_483 (ac_exch l G hB1 i0 (by omega) j0 (by omega)) d_rn_99 hB1.1 rfl rfl rfl rfl ⟨by decide, by decide⟩ ⟨Nat.le_refl 0, Nat.le_refl 0⟩ (by decide) rfl (fun r w3 hp => ?_)
      obtain ⟨hw3, rfl⟩ := hp
      have e3 : w3 = ws := by rw [hw3, hw1, List.set_set, swp_swp]; exact set_self hB.2.2.2.1
      subst e3
      refine z_iinc X d_rn_102 (k := 6) rfl rfl (by decide) (lv' := [(8, .int (j + Int32.ofInt (1))), (0, .ref (ad 0)), (1, .int (cn)), (3, .long (le2)), (5, .int (fi2)), (6, .int (se2)), (7, .int (i))]) rfl ?_
      refine z_goto X d_rn_105 (tgt := 55) (by decide) ?_
      have e1 : (j + Int32.ofInt 1).toInt = j.toInt + 1 := tI_add rfl (show (Int32.ofInt 1).toInt = 1 by decide) (by omega)
      exact Z.mono (fun q hq => by simp only [List.mem_cons, List.not_mem_nil, or_false] at hq ⊢; rcases hq with h | h | h | h | h | h | h <;> simp [h]) (rn_inner X hB i0 i1 hK n (j + Int32.ofInt 1) le2 fi2 se2 hI2 (by omega) (by omega) (by omega))
    refine zl_ge X d_rn_77 d_rn_78 (tgt := 94) (by decide) (a := (SZ wt hx hy (swp a i j) hn.toInt.toNat).toInt) (b := le.toInt) rfl rfl (fun _ => back le fi se hI) (fun hlt2 => ?_)
    refine z_aload_n X d_rn_81 rfl 0 rfl ?_
    refine hcallV (T := TM) (k := 0) (rest := []) (avs := []) X k_11_468 (ac_cogSizeH l G hB1) d_rn_82 hB1.1 rfl rfl rfl rfl ⟨by decide, by decide⟩ ⟨Nat.le_refl 0, Nat.le_refl 0⟩ (by decide) rfl (fun r w2 hp => ?_)
    obtain ⟨hw2, rfl⟩ := hp
    subst hw2
    refine z_lstore_n X d_rn_85 rfl (by decide) (lv' := [(3, .long (SZ wt hx hy (swp a i j) hn.toInt.toNat)), (0, .ref (ad 0)), (1, .int (cn)), (5, .int (fi)), (6, .int (se)), (7, .int (i)), (8, .int (j))]) rfl ?_
    refine z_iload X d_rn_86 5 rfl ?_
    refine z_istore X d_rn_88 (by decide) (lv' := [(5, .int (i)), (3, .long (SZ wt hx hy (swp a i j) hn.toInt.toNat)), (0, .ref (ad 0)), (1, .int (cn)), (6, .int (se)), (7, .int (i)), (8, .int (j))]) rfl ?_
    refine z_iload X d_rn_90 6 rfl ?_
    refine z_istore X d_rn_92 (by decide) (lv' := [(6, .int (j)), (5, .int (i)), (3, .long (SZ wt hx hy (swp a i j) hn.toInt.toNat)), (0, .ref (ad 0)), (1, .int (cn)), (7, .int (i)), (8, .int (j))]) rfl ?_
    have hle := hI.le
    exact Z.mono (fun q hq => by simp only [List.mem_cons, List.not_mem_nil, or_false] at hq ⊢; rcases hq with h | h | h | h | h | h | h <;> simp [h]) (back (SZ wt hx hy (swp a i j) hn.toInt.toNat) i j (Or.inr ⟨i0, by omega, j0, by omega, rfl, by omega⟩))
theorem rn_trial {hn cn : Int32} {wt hx hy a : Nat → Int32} {ws : va_W} (X : ZC p s m args meth c cX11_round 9 RX11 G A (some .int) "round") (hB : CKw G ad hn wt hx hy a ws)
    (hK : ∀ (le : Int64) (fi se : Int32), RNi hn wt hx hy a le fi se → Z p l e (rmOf C_round) s m args below meth c 9 G A (MQ below (QQ G A (RNpo G ad w0 μ)) args s 0 0 A) 114 [(0, .ref (ad 0)), (1, .int cn), (3, .long le), (5, .int fi), (6, .int se)] [] ws 0 0) :
    ∀ (n : Nat) (i : Int32) (le : Int64) (fi se : Int32), RNi hn wt hx hy a le fi se → 0 ≤ i.toInt → i.toInt ≤ hn.toInt → (hn.toInt - i.toInt).toNat < n → Z p l e (rmOf C_round) s m args below meth c 9 G A (MQ below (QQ G A (RNpo G ad w0 μ)) args s 0 0 A) 40 [(0, .ref (ad 0)), (1, .int cn), (3, .long le), (5, .int fi), (6, .int se), (7, .int i)] [] ws 0 0
  | 0, _, _, _, _, _, _, _, h9 => absurd h9 (Nat.not_lt_zero _)
  | n + 1, i, le, fi, se, hI, i0, i1, h9 => by
    have b1 := hB.2.2.2.2.2.2.2.1
    refine z_iload X d_rn_40 5 rfl ?_
    refine z_aload_n X d_rn_42 rfl 0 rfl ?_
    refine hget (T := TM) X hB.1 (idx := 101) (fld_11_ok _ (by decide : (101, 11, 16) ∈ fld_11)) d_rn_43 rfl (hB.2.1) ?_
    refine zc_ge X d_rn_46 (tgt := 114) (by decide) (a := i.toInt) (b := hn.toInt) rfl rfl (fun hge => Z.mono (fun q hq => by simp only [List.mem_cons, List.not_mem_nil, or_false] at hq ⊢; rcases hq with h | h | h | h | h <;> simp [h]) (hK le fi se hI)) (fun hlt => ?_)
    refine z_iload X d_rn_49 5 rfl ?_
    refine z_iconst X d_rn_51 (v := 1) (by decide) ?_
    refine z_iadd X d_rn_52 ?_
    refine z_istore X d_rn_53 (by decide) (lv' := [(8, .int (((i) + ((1 : Int32))))), (0, .ref (ad 0)), (1, .int (cn)), (3, .long (le)), (5, .int (fi)), (6, .int (se)), (7, .int (i))]) rfl ?_
    have ej : (i + 1).toInt = i.toInt + 1 := tI_add rfl rfl (by omega)
    refine Z.mono (fun q hq => by simp only [List.mem_cons, List.not_mem_nil, or_false] at hq ⊢; rcases hq with h | h | h | h | h | h | h <;> simp [h]) (rn_inner (cn := cn) X hB i0 hlt (fun le2 fi2 se2 hI2 => ?_) _ (i + 1) le fi se hI (by omega) (by omega) (Nat.lt_succ_self _))
    refine z_iinc X d_rn_108 (k := 5) rfl rfl (by decide) (lv' := [(7, .int (i + Int32.ofInt (1))), (0, .ref (ad 0)), (1, .int (cn)), (3, .long (le2)), (5, .int (fi2)), (6, .int (se2))]) rfl ?_
    refine z_goto X d_rn_111 (tgt := 40) (by decide) ?_
    have e1 : (i + Int32.ofInt 1).toInt = i.toInt + 1 := tI_add rfl (show (Int32.ofInt 1).toInt = 1 by decide) (by omega)
    exact Z.mono (fun q hq => by simp only [List.mem_cons, List.not_mem_nil, or_false] at hq ⊢; rcases hq with h | h | h | h | h | h <;> simp [h]) (rn_trial X hB hK n (i + Int32.ofInt 1) le2 fi2 se2 hI2 (by omega) (by omega) (by omega))
theorem rn_rounds {hn : Int32} {wt hx hy : Nat → Int32} (X : ZC p s m args meth c cX11_round 9 RX11 G A (some .int) "round")
    (hK : ∀ (cn : Int32) (ws : va_W), WT G ad TM ws → FRM C_round.2.2.2.2.1 w0 ws → Z p l e (rmOf C_round) s m args below meth c 9 G A (MQ below (QQ G A (RNpo G ad w0 μ)) args s 0 0 A) 143 [(0, .ref (ad 0)), (1, .int cn)] [] ws 0 0) :
    ∀ (n : Nat) (cn : Int32) (a : Nat → Int32) (ws : va_W), CKw G ad hn wt hx hy a ws → FRM C_round.2.2.2.2.1 w0 ws → ((SZ wt hx hy a hn.toInt.toNat).toInt + 9223372036854775808).toNat < n → Z p l e (rmOf C_round) s m args below meth c 9 G A (MQ below (QQ G A (RNpo G ad w0 μ)) args s 0 0 A) 26 [(0, .ref (ad 0)), (1, .int cn)] [] ws 0 0
  | 0, _, _, _, _, _, h9 => absurd h9 (Nat.not_lt_zero _)
  | n + 1, cn, a, ws, hB, hF, h9 => by
    have b0 := hB.2.2.2.2.2.2.1
    refine z_aload_n X d_rn_26 rfl 0 rfl ?_
    refine hcallV (T := TM) (k := 0) (rest := []) (avs := []) X k_11_468 (ac_cogSizeH l G hB) d_rn_27 hB.1 rfl rfl rfl rfl ⟨by decide, by decide⟩ ⟨Nat.le_refl 0, Nat.le_refl 0⟩ (by decide) rfl (fun r w2 hp => ?_)
    obtain ⟨hw2, rfl⟩ := hp
    subst hw2
    refine z_lstore_n X d_rn_30 rfl (by decide) (lv' := [(3, .long (SZ wt hx hy a hn.toInt.toNat)), (0, .ref (ad 0)), (1, .int (cn))]) rfl ?_
    refine z_iconst X d_rn_31 (v := (-1)) (by decide) ?_
    refine z_istore X d_rn_32 (by decide) (lv' := [(5, .int ((-1 : Int32))), (3, .long (SZ wt hx hy a hn.toInt.toNat)), (0, .ref (ad 0)), (1, .int (cn))]) rfl ?_
    refine z_iconst X d_rn_34 (v := (-1)) (by decide) ?_
    refine z_istore X d_rn_35 (by decide) (lv' := [(6, .int ((-1 : Int32))), (5, .int ((-1 : Int32))), (3, .long (SZ wt hx hy a hn.toInt.toNat)), (0, .ref (ad 0)), (1, .int (cn))]) rfl ?_
    refine z_iconst X d_rn_37 (v := 0) (by decide) ?_
    refine z_istore X d_rn_38 (by decide) (lv' := [(7, .int ((0 : Int32))), (6, .int ((-1 : Int32))), (5, .int ((-1 : Int32))), (3, .long (SZ wt hx hy a hn.toInt.toNat)), (0, .ref (ad 0)), (1, .int (cn))]) rfl ?_
    refine Z.mono (fun q hq => by simp only [List.mem_cons, List.not_mem_nil, or_false] at hq ⊢; rcases hq with h | h | h | h | h | h <;> simp [h]) (rn_trial (cn := cn) X hB (fun le fi se hI => ?_) _ 0 (SZ wt hx hy a hn.toInt.toNat) (-1) (-1) (Or.inl ⟨rfl, rfl⟩) (by decide) b0 (Nat.lt_succ_self _))
    refine z_iload X d_rn_114 3 rfl ?_
    refine zi_lt X d_rn_116 (tgt := 123) (by decide) (a := fi.toInt) rfl (fun hneg => ?_) (fun hpos => ?_)
    · skip
      refine z_iconst X d_rn_123 (v := 0) (by decide) ?_
      refine z_istore_n X d_rn_124 rfl (by decide) (lv' := [(2, .int ((0 : Int32))), (0, .ref (ad 0)), (1, .int (cn)), (3, .long (le)), (5, .int (fi)), (6, .int (se))]) rfl ?_
      refine z_iload_n X d_rn_125 rfl 0 rfl ?_
      refine zi_eq X d_rn_126 (tgt := 140) (by decide) (a := 0) rfl (fun _ => ?_) (fun h => absurd rfl h)
      refine z_goto X d_rn_140 (tgt := 22) (by decide) ?_
      refine z_iload_n X d_rn_22 rfl 0 rfl ?_
      refine zi_eq X d_rn_23 (tgt := 143) (by decide) (a := 0) rfl (fun _ => ?_) (fun h => absurd rfl h)
      exact Z.mono (fun q hq => by simp only [List.mem_cons, List.not_mem_nil, or_false] at hq ⊢; rcases hq with h | h <;> simp [h]) (hK cn w2 hB.1 hF)
    refine z_iconst X d_rn_119 (v := 1) (by decide) ?_
    refine z_goto X d_rn_120 (tgt := 124) (by decide) ?_
    refine z_istore_n X d_rn_124 rfl (by decide) (lv' := [(2, .int ((1 : Int32))), (0, .ref (ad 0)), (1, .int (cn)), (3, .long (le)), (5, .int (fi)), (6, .int (se))]) rfl ?_
    refine z_iload_n X d_rn_125 rfl 0 rfl ?_
    refine zi_eq X d_rn_126 (tgt := 140) (by decide) (a := 1) rfl (fun h => absurd h (by decide)) (fun _ => ?_)
    rcases hI with ⟨h, -⟩ | ⟨f0, f1, g0, g1, hle, hlt⟩
    · omega
    refine z_aload_n X d_rn_129 rfl 1 rfl ?_
    refine z_iload X d_rn_130 4 rfl ?_
    refine z_iload X d_rn_132 5 rfl ?_
    refine hcallV (T := TM) (k := 0) (rest := []) (avs := [.int fi, .int se]) X k_11_483 (ac_exch l G hB f0 f1 g0 g1) d_rn_134 hB.1 rfl rfl rfl rfl ⟨by decide, by decide⟩ ⟨Nat.le_refl 0, Nat.le_refl 0⟩ (by decide) rfl (fun r w3 hp => ?_)
    obtain ⟨hw3, rfl⟩ := hp
    have hB3 : CKw G ad hn wt hx hy (swp a fi se) w3 := by rw [hw3]; exact hB.swp f0 f1 g0 g1
    have hF3 : FRM C_round.2.2.2.2.1 w0 w3 := by rw [hw3]; exact hF.wr (x := (cyI G, 8, .inl a)) (b := 0) (by decide)
    refine z_iinc X d_rn_137 (k := 2) rfl rfl (by decide) (lv' := [(1, .int (cn + Int32.ofInt (1))), (2, .int ((1 : Int32))), (0, .ref (ad 0)), (3, .long (le)), (5, .int (fi)), (6, .int (se))]) rfl ?_
    refine z_goto X d_rn_140 (tgt := 22) (by decide) ?_
    refine z_iload_n X d_rn_22 rfl 1 rfl ?_
    refine zi_eq X d_rn_23 (tgt := 143) (by decide) (a := 1) rfl (fun h => absurd h (by decide)) (fun _ => ?_)
    have l1 := i64_lo (SZ wt hx hy (swp a fi se) hn.toInt.toNat)
    unfold lMin at l1
    rw [hle] at hlt
    exact Z.mono (fun q hq => by simp only [List.mem_cons, List.not_mem_nil, or_false] at hq ⊢; rcases hq with h | h <;> simp [h]) (rn_rounds X hK n (cn + Int32.ofInt 1) (swp a fi se) w3 hB3 hF3 (by omega))
end RNS
theorem ac_round (l : Launch) (G : KG) : ACt l G TM yX11_round cX11_round 9 (some .int) C_round := by
  refine hand_of (by decide) (by decide) (by decide) (by decide) (by decide) ?_
  intro p e s m args below meth c A X ad w0 μ lw hW hPre hg
  refine aseg (C := sC_rnA) (PO := RNpo G ad w0 μ) (fld := fld_11) (put := put_11) (cst := cst_11) (cstl := cstl_11) (hk := hk0) (tab := D_X11_round) (rk := 1) (pids := [0]) D_X11_round_ok X rfl rfl hok0 (Or.inr (Or.inl ⟨rfl, rfl⟩)) (Nat.le_refl 0) (Nat.le_refl 0) (spin1 (C := C_round)) (spin2 (C := C_round)) (fun r w1 h => h) fld_11_ok put_11_ok cst_11_ok cstl_11_ok (sl_rnA_ok l G) (Nat.le_refl 0) (Nat.le_refl 0) spin3 sg_rnA (fun d hd ν2 lw2 sw2 ws2 hg2 => ?_) μ lw [] w0 hg
  rw [List.mem_singleton.mp hd] at hg2 ⊢
  have hs : sw2 = [] := hg2.2.1
  subst hs
  have h3 := hg2.2.2
  have e0 : ν2 0 = .ref (ad 0) := h3.ref (i := 0) rfl
  have hW2 := h3.2.2.2.2.2.1
  have hF2 := h3.2.2.2.2.2.2
  obtain ⟨hn, f1, n0, n1⟩ := fget_int (T := TM) (k := 0) (j := 16) hW2 rfl rfl
  obtain ⟨wt, a1, -⟩ := WT.ints (T := TM) (k := 13) (n := 8) hW2 rfl
  obtain ⟨a, a2, a3⟩ := WT.ints (T := TM) (k := 43) (n := 8) hW2 rfl
  obtain ⟨hx, a4, -⟩ := WT.ints (T := TM) (k := 3) (n := 16) hW2 rfl
  obtain ⟨hy, a5, -⟩ := WT.ints (T := TM) (k := 4) (n := 16) hW2 rfl
  have el : lw2 = [(0, ν2 0), (1, ν2 500), (2, ν2 501)] := hg2.1
  obtain ⟨z4, e4, q1, q2⟩ := h3.rng (i := 500) (a := 0) (b := 0) (by decide)
  obtain ⟨z5, e5, q3, q4⟩ := h3.rng (i := 501) (a := 1) (b := 1) (by decide)
  have f5 : z5 = 1 := Int32.toInt_inj.mp (by show z5.toInt = 1; omega)
  rw [el, e0, e4, e5, f5]
  have hB : CKw G ad hn wt hx hy a ws2 := ⟨hW2, f1, a1, a2, a4, a5, n0, n1, fun k hk => ⟨(a3 k hk).1, (a3 k hk).2.1⟩⟩
  have d22 : decode cX11_round 22 = .ok (.iload_n 2, 1) := d_rn_22
  refine z_iload_n X d22 rfl 2 rfl ?_
  refine zi_eq X d_rn_23 (tgt := 143) (by decide) (a := 1) rfl (fun h => absurd h (by decide)) (fun _ => ?_)
  refine Z.mono (fun q hq => by simp only [List.mem_cons, List.not_mem_nil, or_false] at hq ⊢; rcases hq with h | h <;> simp [h]) (rn_rounds (μ := μ) X (fun cn ws hW3 hF3 => ?_) _ z4 a ws2 hB hF2 (Nat.lt_succ_self _))
  obtain ⟨ν, hν⟩ : ∃ ν : Nat → Value, ν = fun i => if i = 700 then .int cn else μ i := ⟨_, rfl⟩
  have m7 : ν 700 = .int cn := by rw [hν]; rfl
  have mμ : ∀ i, i ≠ 700 → ν i = μ i := fun i hi => by rw [hν]; exact if_neg hi
  have m0 : ν 0 = .ref (ad 0) := by rw [mμ 0 (by decide)]; exact hg.2.2.ref (i := 0) rfl
  obtain ⟨pinB, hpB⟩ : ∃ pinB, pinB = (700, Value.int cn) :: spin C_round μ := ⟨_, rfl⟩
  have hgB : AG G ad TM sC_rnB.2.2.2.2.1 ws pinB ss_rnB ν [(0, .ref (ad 0)), (1, .int cn)] [] ws := by
    refine ⟨by show _ = [(0, ν 0), (1, ν 700)]; rw [m0, m7], rfl, fun q hq => ?_, fun q hq => ?_, fun q hq => (by cases hq), fun q hq => (by cases hq), fun q hq => ?_, hW3, rfl, fun _ _ _ => rfl⟩
    · have hq : q ∈ [((0, 0, false) : Nat × Nat × Bool), (1, 700, false)] := hq
      rcases List.mem_cons.mp hq with rfl | hq
      · show (ν 0).category = 1; rw [m0]; rfl
      · rw [List.mem_singleton.mp hq]; show (ν 700).category = 1; rw [m7]; rfl
    · have hq : q ∈ [((0, (2, 0, 0)) : Nat × VT), (700, (0, -2147483648, 2147483647))] := hq
      rcases List.mem_cons.mp hq with rfl | hq
      · show vty ad (2, 0, 0) (ν 0); rw [m0]; exact Or.inr (Or.inr (Or.inl ⟨rfl, rfl⟩))
      · rw [List.mem_singleton.mp hq]; show vty ad _ (ν 700); rw [m7]; exact vty_i0 cn
    · rw [hpB] at hq
      rcases List.mem_cons.mp hq with rfl | hq
      · exact ⟨by show 700 < 1000; decide, m7⟩
      · have h1 := spin3 q hq
        have h1 : q.1 ∈ [0] := h1
        have h2 := (hg.2.2.2.2.2.2.1 q hq).2
        have h1 := List.mem_singleton.mp h1
        refine ⟨by rw [h1]; decide, ?_⟩
        rw [mμ q.1 (by rw [h1]; decide)]
        exact h2
  refine aseg (C := sC_rnB) (PO := RNpo G ad w0 μ) (fld := fld_11) (put := put_11) (cst := cst_11) (cstl := cstl_11) (hk := hk0) (tab := D_X11_round) (rk := 1) (pids := [0, 700]) D_X11_round_ok X rfl rfl hok0 (Or.inr (Or.inl ⟨rfl, rfl⟩)) (Nat.le_refl 0) (Nat.le_refl 0) (fun j hj => by rw [hpB]; exact List.mem_cons_of_mem _ (spin1 (C := C_round) j hj)) (fun j hj => by rw [hpB]; exact List.mem_cons_of_mem _ (spin2 (C := C_round) j hj)) (fun r w1 h => POST.mono (C := sC_rnB) (C' := C_round) h rfl hF3 (by decide)) fld_11_ok put_11_ok cst_11_ok cstl_11_ok (sl_rnB_ok l G) (Nat.le_refl 0) (Nat.le_refl 0) (fun q hq => by
      rw [hpB] at hq
      rcases List.mem_cons.mp hq with rfl | hq
      · exact (by decide : (700 : Nat) ∈ [0, 700])
      · have h1 := List.mem_singleton.mp (show q.1 ∈ [0] from spin3 q hq)
        rw [h1]; decide) sg_rnB (fun d hd ν2 lw2 sw2 ws2 hg2 => absurd hd List.not_mem_nil) ν _ [] ws hgB

