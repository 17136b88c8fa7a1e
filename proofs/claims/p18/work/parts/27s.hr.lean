/-! the class's hole, row: an answer or a throw -/
abbrev cL_law : ByteArray := code
abbrev cL_hole : ByteArray := method_3_code
def yL_hole : MethodName := ⟨RL, "hole", "(LStoneThatShakes;II[J)I"⟩
abbrev cL_row : ByteArray := method_4_code
def yL_row : MethodName := ⟨RL, "row", "(LStoneThatShakes;I[J)I"⟩
abbrev hL_hole : List (Nat × Nat × Nat × Nat) := [(0, 10, 13, 13)]
abbrev hL_row : List (Nat × Nat × Nat × Nat) := [(0, 8, 11, 13)]
theorem cl_L_13 : Cond.classLink RL 13 NSE ∈ BIG := big_5 (List.mem_of_getElem? (i := 123) rfl) rfl
theorem k_L_38 : LkSW RL 38 yL_hole cL_hole 5 (some .int) hL_hole 4 := ⟨big_5 (List.mem_of_getElem? (i := 120) rfl) rfl, big_5 (List.mem_of_getElem? (i := 121) rfl) rfl, big_1 (List.mem_of_getElem? (i := 0) rfl) rfl, big_5 (List.mem_of_getElem? (i := 122) rfl) rfl, by decide, by decide, by decide⟩
theorem k_L_228 : LkSW RL 228 yL_row cL_row 4 (some .int) hL_row 3 := ⟨big_5 (List.mem_of_getElem? (i := 195) rfl) rfl, big_5 (List.mem_of_getElem? (i := 196) rfl) rfl, big_1 (List.mem_of_getElem? (i := 0) rfl) rfl, big_5 (List.mem_of_getElem? (i := 197) rfl) rfl, by decide, by decide, by decide⟩
theorem d_ho_0 : decode cX10_hole 0 = .ok (.aload_n 0, 1) := by decide +kernel
theorem d_ho_1 : decode cX10_hole 1 = .ok (.getfield 26, 3) := by decide +kernel
theorem d_ho_4 : decode cX10_hole 4 = .ok (.iload_n 1, 1) := by decide +kernel
theorem d_ho_5 : decode cX10_hole 5 = .ok (.invokevirtual 106, 3) := by decide +kernel
theorem d_ho_8 : decode cX10_hole 8 = .ok (.ifCond .ne 13, 3) := by decide +kernel
theorem d_ho_11 : decode cX10_hole 11 = .ok (.new 109, 3) := by decide +kernel
theorem d_ho_14 : decode cX10_hole 14 = .ok (.dup, 1) := by decide +kernel
theorem d_ho_15 : decode cX10_hole 15 = .ok (.ldc 111, 2) := by decide +kernel
theorem d_ho_17 : decode cX10_hole 17 = .ok (.invokespecial 113, 3) := by decide +kernel
theorem d_ho_20 : decode cX10_hole 20 = .ok (.athrow, 1) := by decide +kernel
theorem d_ho_21 : decode cX10_hole 21 = .ok (.iload_n 2, 1) := by decide +kernel
theorem d_ho_22 : decode cX10_hole 22 = .ok (.tableswitch 98 0 5 #[38, 48, 58, 68, 78, 88], 38) := by decide +kernel
theorem d_ho_60 : decode cX10_hole 60 = .ok (.aload_n 0, 1) := by decide +kernel
theorem d_ho_61 : decode cX10_hole 61 = .ok (.getfield 26, 3) := by decide +kernel
theorem d_ho_64 : decode cX10_hole 64 = .ok (.getfield 116, 3) := by decide +kernel
theorem d_ho_67 : decode cX10_hole 67 = .ok (.iload_n 1, 1) := by decide +kernel
theorem d_ho_68 : decode cX10_hole 68 = .ok (.iaload, 1) := by decide +kernel
theorem d_ho_69 : decode cX10_hole 69 = .ok (.ireturn, 1) := by decide +kernel
theorem d_ho_70 : decode cX10_hole 70 = .ok (.aload_n 0, 1) := by decide +kernel
theorem d_ho_71 : decode cX10_hole 71 = .ok (.getfield 26, 3) := by decide +kernel
theorem d_ho_74 : decode cX10_hole 74 = .ok (.getfield 119, 3) := by decide +kernel
theorem d_ho_77 : decode cX10_hole 77 = .ok (.iload_n 1, 1) := by decide +kernel
theorem d_ho_78 : decode cX10_hole 78 = .ok (.iaload, 1) := by decide +kernel
theorem d_ho_79 : decode cX10_hole 79 = .ok (.ireturn, 1) := by decide +kernel
theorem d_ho_80 : decode cX10_hole 80 = .ok (.aload_n 0, 1) := by decide +kernel
theorem d_ho_81 : decode cX10_hole 81 = .ok (.getfield 26, 3) := by decide +kernel
theorem d_ho_84 : decode cX10_hole 84 = .ok (.getfield 122, 3) := by decide +kernel
theorem d_ho_87 : decode cX10_hole 87 = .ok (.iload_n 1, 1) := by decide +kernel
theorem d_ho_88 : decode cX10_hole 88 = .ok (.iaload, 1) := by decide +kernel
theorem d_ho_89 : decode cX10_hole 89 = .ok (.ireturn, 1) := by decide +kernel
theorem d_ho_90 : decode cX10_hole 90 = .ok (.aload_n 0, 1) := by decide +kernel
theorem d_ho_91 : decode cX10_hole 91 = .ok (.getfield 26, 3) := by decide +kernel
theorem d_ho_94 : decode cX10_hole 94 = .ok (.getfield 125, 3) := by decide +kernel
theorem d_ho_97 : decode cX10_hole 97 = .ok (.iload_n 1, 1) := by decide +kernel
theorem d_ho_98 : decode cX10_hole 98 = .ok (.iaload, 1) := by decide +kernel
theorem d_ho_99 : decode cX10_hole 99 = .ok (.ireturn, 1) := by decide +kernel
theorem d_ho_100 : decode cX10_hole 100 = .ok (.aload_n 0, 1) := by decide +kernel
theorem d_ho_101 : decode cX10_hole 101 = .ok (.getfield 26, 3) := by decide +kernel
theorem d_ho_104 : decode cX10_hole 104 = .ok (.getfield 128, 3) := by decide +kernel
theorem d_ho_107 : decode cX10_hole 107 = .ok (.iload_n 1, 1) := by decide +kernel
theorem d_ho_108 : decode cX10_hole 108 = .ok (.iaload, 1) := by decide +kernel
theorem d_ho_109 : decode cX10_hole 109 = .ok (.ireturn, 1) := by decide +kernel
theorem d_ho_110 : decode cX10_hole 110 = .ok (.aload_n 0, 1) := by decide +kernel
theorem d_ho_111 : decode cX10_hole 111 = .ok (.getfield 26, 3) := by decide +kernel
theorem d_ho_114 : decode cX10_hole 114 = .ok (.getfield 131, 3) := by decide +kernel
theorem d_ho_117 : decode cX10_hole 117 = .ok (.iload_n 1, 1) := by decide +kernel
theorem d_ho_118 : decode cX10_hole 118 = .ok (.iaload, 1) := by decide +kernel
theorem d_ho_119 : decode cX10_hole 119 = .ok (.ireturn, 1) := by decide +kernel
theorem d_ho_120 : decode cX10_hole 120 = .ok (.new 109, 3) := by decide +kernel
theorem d_ho_123 : decode cX10_hole 123 = .ok (.dup, 1) := by decide +kernel
theorem d_ho_124 : decode cX10_hole 124 = .ok (.ldc 134, 2) := by decide +kernel
theorem d_ho_126 : decode cX10_hole 126 = .ok (.invokespecial 113, 3) := by decide +kernel
theorem d_ho_129 : decode cX10_hole 129 = .ok (.athrow, 1) := by decide +kernel
theorem d_ro_0 : decode cX10_row 0 = .ok (.iload_n 1, 1) := by decide +kernel
theorem d_ro_1 : decode cX10_row 1 = .ok (.ifCond .lt 14, 3) := by decide +kernel
theorem d_ro_4 : decode cX10_row 4 = .ok (.iload_n 1, 1) := by decide +kernel
theorem d_ro_5 : decode cX10_row 5 = .ok (.aload_n 0, 1) := by decide +kernel
theorem d_ro_6 : decode cX10_row 6 = .ok (.getfield 12, 3) := by decide +kernel
theorem d_ro_9 : decode cX10_row 9 = .ok (.getfield 492, 3) := by decide +kernel
theorem d_ro_12 : decode cX10_row 12 = .ok (.if_icmp .lt 14, 3) := by decide +kernel
theorem d_ro_15 : decode cX10_row 15 = .ok (.new 109, 3) := by decide +kernel
theorem d_ro_18 : decode cX10_row 18 = .ok (.dup, 1) := by decide +kernel
theorem d_ro_19 : decode cX10_row 19 = .ok (.ldc_w 496, 3) := by decide +kernel
theorem d_ro_22 : decode cX10_row 22 = .ok (.invokespecial 113, 3) := by decide +kernel
theorem d_ro_25 : decode cX10_row 25 = .ok (.athrow, 1) := by decide +kernel
theorem d_ro_26 : decode cX10_row 26 = .ok (.aload_n 0, 1) := by decide +kernel
theorem d_ro_27 : decode cX10_row 27 = .ok (.getfield 12, 3) := by decide +kernel
theorem d_ro_30 : decode cX10_row 30 = .ok (.getfield 498, 3) := by decide +kernel
theorem d_ro_33 : decode cX10_row 33 = .ok (.iload_n 1, 1) := by decide +kernel
theorem d_ro_34 : decode cX10_row 34 = .ok (.laload, 1) := by decide +kernel
theorem d_ro_35 : decode cX10_row 35 = .ok (.lreturn, 1) := by decide +kernel
theorem d_lh_0 : decode cL_hole 0 = .ok (.aload_n 3, 1) := by decide +kernel
theorem d_lh_1 : decode cL_hole 1 = .ok (.iconst 0, 1) := by decide +kernel
theorem d_lh_2 : decode cL_hole 2 = .ok (.aload_n 0, 1) := by decide +kernel
theorem d_lh_3 : decode cL_hole 3 = .ok (.iload_n 1, 1) := by decide +kernel
theorem d_lh_4 : decode cL_hole 4 = .ok (.iload_n 2, 1) := by decide +kernel
theorem d_lh_5 : decode cL_hole 5 = .ok (.invokevirtual 7, 3) := by decide +kernel
theorem d_lh_8 : decode cL_hole 8 = .ok (.i2l, 1) := by decide +kernel
theorem d_lh_9 : decode cL_hole 9 = .ok (.lastore, 1) := by decide +kernel
theorem d_lh_10 : decode cL_hole 10 = .ok (.goto 7, 3) := by decide +kernel
theorem d_lh_13 : decode cL_hole 13 = .ok (.astore 4, 2) := by decide +kernel
theorem d_lh_15 : decode cL_hole 15 = .ok (.iconst 1, 1) := by decide +kernel
theorem d_lh_16 : decode cL_hole 16 = .ok (.ireturn, 1) := by decide +kernel
theorem d_lh_17 : decode cL_hole 17 = .ok (.iconst 0, 1) := by decide +kernel
theorem d_lh_18 : decode cL_hole 18 = .ok (.ireturn, 1) := by decide +kernel
theorem d_lr_0 : decode cL_row 0 = .ok (.aload_n 2, 1) := by decide +kernel
theorem d_lr_1 : decode cL_row 1 = .ok (.iconst 0, 1) := by decide +kernel
theorem d_lr_2 : decode cL_row 2 = .ok (.aload_n 0, 1) := by decide +kernel
theorem d_lr_3 : decode cL_row 3 = .ok (.iload_n 1, 1) := by decide +kernel
theorem d_lr_4 : decode cL_row 4 = .ok (.invokevirtual 15, 3) := by decide +kernel
theorem d_lr_7 : decode cL_row 7 = .ok (.lastore, 1) := by decide +kernel
theorem d_lr_8 : decode cL_row 8 = .ok (.goto 6, 3) := by decide +kernel
theorem d_lr_11 : decode cL_row 11 = .ok (.astore_n 3, 1) := by decide +kernel
theorem d_lr_12 : decode cL_row 12 = .ok (.iconst 1, 1) := by decide +kernel
theorem d_lr_13 : decode cL_row 13 = .ok (.ireturn, 1) := by decide +kernel
theorem d_lr_14 : decode cL_row 14 = .ok (.iconst 0, 1) := by decide +kernel
theorem d_lr_15 : decode cL_row 15 = .ok (.ireturn, 1) := by decide +kernel
abbrev rm_h : Room := { frames := 6, cells := 1, slots := 6, locals := 82 }
def Wsame (G : KG) (ad : Nat → Nat) (w0 : va_W) : va_W → Prop := fun w1 => WT G ad TX w1 ∧ FRM [] w0 w1
theorem cu_hole (l : Launch) (hst : l.stackTraces = false) (G : KG) {ad : Nat → Nat} {w0 : va_W} (hW : WT G ad TX w0) (i k : Int32) : CtU l G yX10_hole cX10_hole 3 (some .int) rm_h [.ref (ad 0), .int i, .int k] w0 (fun r w1 => (∃ v : Int32, r = some (.int v)) ∧ Wsame G ad w0 w1) (Wsame G ad w0) := by
  refine ctU_of [(0, .ref (ad 0)), (1, .int i), (2, .int k)] (by decide) (Nat.le_of_ble_eq_true rfl) rfl ?_
  intro p e s m args below meth c A X hE hno
  refine z_aload_n X d_ho_0 rfl 0 rfl ?_
  refine hget (T := TX) X hW (idx := 26) (fld_10_ok _ (by decide : (26, 10, 2) ∈ fld_10)) d_ho_1 rfl (fget_ref hW rfl rfl) ?_
  refine z_iload_n X d_ho_4 rfl 1 rfl ?_
  obtain ⟨μ, hμ⟩ : ∃ q : Nat → Value, q = fun k => if k = 0 then .ref (ad 5) else .int i := ⟨_, rfl⟩
  have m0 : μ 0 = .ref (ad 5) := by rw [hμ]; rfl
  have m1 : μ 1 = .int i := by rw [hμ]; rfl
  have hpre : PRE ad C_X5_isHole_0 μ w0 := by
    refine ⟨fun k t hk => ?_, fun k q hk => ?_, fun q hq => ?_⟩
    · match k, hk with
      | 0, hk => cases hk; rw [m0]; exact Or.inr (Or.inr (Or.inl ⟨rfl, rfl⟩))
      | 1, hk => cases hk; rw [m1]; exact vty_i0 _
      | N + 2, hk => cases hk
    · cases hk
    · cases hq
  have hct := ac_X5_isHole_0 l G ad w0 μ hW hpre
  have e0 : (List.range C_X5_isHole_0.1.length).map μ = [.ref (ad 5), .int i] := by show [μ 0, μ 1] = _; rw [m0, m1]
  rw [e0] at hct
  refine hcallV (T := TX) (k := 5) (rest := []) (avs := [.int i]) X k_10_106 hct d_ho_5 hW rfl rfl rfl rfl ⟨by decide, by decide⟩ ⟨by decide, by decide⟩ (by decide) rfl (fun r w1 hp => ?_)
  obtain ⟨A1, hA1, μ2, q1, -, q3, q4, -, -, q7, q8⟩ := hp
  have hRw : Wsame G ad w0 w1 := ⟨q7, q8⟩
  have hv : ∃ v : Int32, r = some (.int v) ∧ (v.toInt ≠ 0 → 0 ≤ i.toInt ∧ i.toInt ≤ 15) := by
    have hA1 : A1 ∈ [_, _] := hA1
    rcases List.mem_cons.mp hA1 with e | hA1
    · subst e
      obtain ⟨r1, r2⟩ := q3
      obtain ⟨v, ev, v0, v1⟩ := vty0 r2 rfl
      have v0 : (0 : Int) ≤ v.toInt := v0
      have v1 : v.toInt ≤ 0 := v1
      exact ⟨v, by rw [r1, ev], fun h => absurd (show v.toInt = 0 by omega) h⟩
    · have e := List.mem_singleton.mp hA1
      subst e
      obtain ⟨r1, r2⟩ := q3
      obtain ⟨v, ev, -⟩ := vty0 r2 rfl
      have h5 := q4 (1, (0, 0, 15)) (by decide)
      have h5 : vty ad (0, 0, 15) (μ2 1) := h5
      rw [q1 1 (by decide), m1] at h5
      obtain ⟨x, ex, x0, x1⟩ := vty0 h5 rfl
      have ex : i = x := by injection ex
      subst ex
      exact ⟨v, by rw [r1, ev], fun _ => ⟨x0, x1⟩⟩
  obtain ⟨v, rfl, hvi⟩ := hv
  refine zi_ne X d_ho_8 (tgt := 21) (by decide) (a := v.toInt) rfl (fun hne => ?_) (fun _ => ?_)
  rotate_left
  · exact z_throwU hRw X hE hst hno hE.2.2.2.2.1 d_ho_11 d_ho_14 d_ho_15 d_ho_17 d_ho_20 ⟨by decide, by decide, by decide, by decide⟩ ⟨by decide, by decide⟩
  obtain ⟨i0, i1⟩ := hvi hne
  have vi : vp_in i 16 := vp_of i0 (by omega)
  refine z_iload_n X d_ho_21 rfl 2 rfl ?_
  rcases (by omega : (k.toInt < 0 ∨ 5 < k.toInt) ∨ k.toInt = 0 ∨ k.toInt = 1 ∨ k.toInt = 2 ∨ k.toInt = 3 ∨ k.toInt = 4 ∨ k.toInt = 5) with hk | hk | hk | hk | hk | hk | hk
  · refine z_tableOut X d_ho_22 hk (tgt := 120) (by decide) ?_
    exact z_throwU hRw X hE hst hno hE.2.2.2.2.2.1 d_ho_120 d_ho_123 d_ho_124 d_ho_126 d_ho_129 ⟨by decide, by decide, by decide, by decide⟩ ⟨by decide, by decide⟩
  · refine z_tableIn X d_ho_22 (by rw [hk]; decide) (by rw [hk]; decide) (off := 38) (tgt := 60) (by rw [hk]; rfl) (by decide) ?_
    obtain ⟨f, hf, -⟩ := WT.ints (T := TX) (k := 6) (n := 16) q7 rfl
    refine z_aload_n X d_ho_60 rfl 0 rfl ?_
    refine hget (T := TX) X q7 (idx := 26) (fld_10_ok _ (by decide : (26, 10, 2) ∈ fld_10)) d_ho_61 rfl (fget_ref q7 rfl rfl) ?_
    refine hget (T := TX) X q7 (idx := 116) (fld_10_ok _ (by decide : (116, 5, 1) ∈ fld_10)) d_ho_64 rfl (fget_ref q7 rfl rfl) ?_
    refine z_iload_n X d_ho_67 rfl 1 rfl ?_
    refine z_iald X d_ho_68 6 (hf) (vi) rfl ?_
    exact z_lift (z_iret X rfl d_ho_69 (Nat.zero_le _) (Nat.zero_le _) ⟨⟨_, rfl⟩, hRw⟩)
  · refine z_tableIn X d_ho_22 (by rw [hk]; decide) (by rw [hk]; decide) (off := 48) (tgt := 70) (by rw [hk]; rfl) (by decide) ?_
    obtain ⟨f, hf, -⟩ := WT.ints (T := TX) (k := 7) (n := 16) q7 rfl
    refine z_aload_n X d_ho_70 rfl 0 rfl ?_
    refine hget (T := TX) X q7 (idx := 26) (fld_10_ok _ (by decide : (26, 10, 2) ∈ fld_10)) d_ho_71 rfl (fget_ref q7 rfl rfl) ?_
    refine hget (T := TX) X q7 (idx := 119) (fld_10_ok _ (by decide : (119, 5, 2) ∈ fld_10)) d_ho_74 rfl (fget_ref q7 rfl rfl) ?_
    refine z_iload_n X d_ho_77 rfl 1 rfl ?_
    refine z_iald X d_ho_78 7 (hf) (vi) rfl ?_
    exact z_lift (z_iret X rfl d_ho_79 (Nat.zero_le _) (Nat.zero_le _) ⟨⟨_, rfl⟩, hRw⟩)
  · refine z_tableIn X d_ho_22 (by rw [hk]; decide) (by rw [hk]; decide) (off := 58) (tgt := 80) (by rw [hk]; rfl) (by decide) ?_
    obtain ⟨f, hf, -⟩ := WT.ints (T := TX) (k := 8) (n := 16) q7 rfl
    refine z_aload_n X d_ho_80 rfl 0 rfl ?_
    refine hget (T := TX) X q7 (idx := 26) (fld_10_ok _ (by decide : (26, 10, 2) ∈ fld_10)) d_ho_81 rfl (fget_ref q7 rfl rfl) ?_
    refine hget (T := TX) X q7 (idx := 122) (fld_10_ok _ (by decide : (122, 5, 3) ∈ fld_10)) d_ho_84 rfl (fget_ref q7 rfl rfl) ?_
    refine z_iload_n X d_ho_87 rfl 1 rfl ?_
    refine z_iald X d_ho_88 8 (hf) (vi) rfl ?_
    exact z_lift (z_iret X rfl d_ho_89 (Nat.zero_le _) (Nat.zero_le _) ⟨⟨_, rfl⟩, hRw⟩)
  · refine z_tableIn X d_ho_22 (by rw [hk]; decide) (by rw [hk]; decide) (off := 68) (tgt := 90) (by rw [hk]; rfl) (by decide) ?_
    obtain ⟨f, hf, -⟩ := WT.ints (T := TX) (k := 9) (n := 16) q7 rfl
    refine z_aload_n X d_ho_90 rfl 0 rfl ?_
    refine hget (T := TX) X q7 (idx := 26) (fld_10_ok _ (by decide : (26, 10, 2) ∈ fld_10)) d_ho_91 rfl (fget_ref q7 rfl rfl) ?_
    refine hget (T := TX) X q7 (idx := 125) (fld_10_ok _ (by decide : (125, 5, 4) ∈ fld_10)) d_ho_94 rfl (fget_ref q7 rfl rfl) ?_
    refine z_iload_n X d_ho_97 rfl 1 rfl ?_
    refine z_iald X d_ho_98 9 (hf) (vi) rfl ?_
    exact z_lift (z_iret X rfl d_ho_99 (Nat.zero_le _) (Nat.zero_le _) ⟨⟨_, rfl⟩, hRw⟩)
  · refine z_tableIn X d_ho_22 (by rw [hk]; decide) (by rw [hk]; decide) (off := 78) (tgt := 100) (by rw [hk]; rfl) (by decide) ?_
    obtain ⟨f, hf, -⟩ := WT.ints (T := TX) (k := 10) (n := 16) q7 rfl
    refine z_aload_n X d_ho_100 rfl 0 rfl ?_
    refine hget (T := TX) X q7 (idx := 26) (fld_10_ok _ (by decide : (26, 10, 2) ∈ fld_10)) d_ho_101 rfl (fget_ref q7 rfl rfl) ?_
    refine hget (T := TX) X q7 (idx := 128) (fld_10_ok _ (by decide : (128, 5, 5) ∈ fld_10)) d_ho_104 rfl (fget_ref q7 rfl rfl) ?_
    refine z_iload_n X d_ho_107 rfl 1 rfl ?_
    refine z_iald X d_ho_108 10 (hf) (vi) rfl ?_
    exact z_lift (z_iret X rfl d_ho_109 (Nat.zero_le _) (Nat.zero_le _) ⟨⟨_, rfl⟩, hRw⟩)
  · refine z_tableIn X d_ho_22 (by rw [hk]; decide) (by rw [hk]; decide) (off := 88) (tgt := 110) (by rw [hk]; rfl) (by decide) ?_
    obtain ⟨f, hf, -⟩ := WT.ints (T := TX) (k := 11) (n := 16) q7 rfl
    refine z_aload_n X d_ho_110 rfl 0 rfl ?_
    refine hget (T := TX) X q7 (idx := 26) (fld_10_ok _ (by decide : (26, 10, 2) ∈ fld_10)) d_ho_111 rfl (fget_ref q7 rfl rfl) ?_
    refine hget (T := TX) X q7 (idx := 131) (fld_10_ok _ (by decide : (131, 5, 6) ∈ fld_10)) d_ho_114 rfl (fget_ref q7 rfl rfl) ?_
    refine z_iload_n X d_ho_117 rfl 1 rfl ?_
    refine z_iald X d_ho_118 11 (hf) (vi) rfl ?_
    exact z_lift (z_iret X rfl d_ho_119 (Nat.zero_le _) (Nat.zero_le _) ⟨⟨_, rfl⟩, hRw⟩)
theorem cu_row (l : Launch) (hst : l.stackTraces = false) (G : KG) {ad : Nat → Nat} {w0 : va_W} (hW : WT G ad TX w0) (i : Int32) : CtU l G yX10_row cX10_row 2 (some .long) rm_h [.ref (ad 0), .int i] w0 (fun r w1 => (∃ v : Int64, r = some (.long v)) ∧ Wsame G ad w0 w1) (Wsame G ad w0) := by
  refine ctU_of [(0, .ref (ad 0)), (1, .int i)] (by decide) (Nat.le_of_ble_eq_true rfl) rfl ?_
  intro p e s m args below meth c A X hE hno
  have hRw : Wsame G ad w0 w0 := ⟨hW, rfl, fun _ _ _ => rfl⟩
  obtain ⟨n, hn, n0, n1⟩ := fget_int (T := TX) (k := 1) (j := 1) hW rfl rfl
  have thr : ∀ (lw : List (Nat × Value)), Z p l e rm_h s m args below meth c 2 G A (vx_MQ below (QQ G A (fun r w1 => (∃ v : Int64, r = some (.long v)) ∧ Wsame G ad w0 w1)) (XCp G (Wsame G ad w0) A) args s rm_h.cells rm_h.slots A) 15 lw [] w0 0 0 := fun lw => z_throwWU hRw X hE hst hno hE.2.2.2.2.2.2 d_ro_15 d_ro_18 d_ro_19 d_ro_22 d_ro_25 ⟨by decide, by decide, by decide, by decide⟩ ⟨by decide, by decide⟩
  refine z_iload_n X d_ro_0 rfl 1 rfl ?_
  refine zi_lt X d_ro_1 (tgt := 15) (by decide) (a := i.toInt) rfl (fun _ => thr _) (fun i0 => ?_)
  refine z_iload_n X d_ro_4 rfl 1 rfl ?_
  refine z_aload_n X d_ro_5 rfl 0 rfl ?_
  refine hget (T := TX) X hW (idx := 12) (fld_10_ok _ (by decide : (12, 10, 0) ∈ fld_10)) d_ro_6 rfl (fget_ref hW rfl rfl) ?_
  refine hget (T := TX) X hW (idx := 492) (fld_10_ok _ (by decide : (492, 8, 1) ∈ fld_10)) d_ro_9 rfl (hn) ?_
  refine zc_lt X d_ro_12 (tgt := 26) (by decide) (a := i.toInt) (b := n.toInt) rfl rfl (fun hlt => ?_) (fun _ => thr _)
  have vi : vp_in i 16 := vp_of i0 (by omega)
  obtain ⟨e1, h1, h2⟩ := hW.arr (k := 2) rfl
  obtain ⟨f, rfl⟩ : ∃ f : Nat → Int64, e1 = aJ G 16 f := by
    rcases h2 with ⟨h9, -⟩ | ⟨-, f, rfl⟩ | ⟨h9, -⟩ | ⟨h9, -⟩
    · exact absurd h9 (by decide)
    · exact ⟨f, rfl⟩
    · exact absurd h9 (by decide)
    · exact absurd h9 (by decide)
  refine z_aload_n X d_ro_26 rfl 0 rfl ?_
  refine hget (T := TX) X hW (idx := 12) (fld_10_ok _ (by decide : (12, 10, 0) ∈ fld_10)) d_ro_27 rfl (fget_ref hW rfl rfl) ?_
  refine hget (T := TX) X hW (idx := 498) (fld_10_ok _ (by decide : (498, 8, 0) ∈ fld_10)) d_ro_30 rfl (fget_ref hW rfl rfl) ?_
  refine z_iload_n X d_ro_33 rfl 1 rfl ?_
  refine z_lald X d_ro_34 2 (h1) (vi) rfl ?_
  exact z_lift (z_lret X rfl d_ro_35 (Nat.zero_le _) (Nat.zero_le _) ⟨⟨_, rfl⟩, hRw⟩)
/-- behind the law's own calls of hole and row -/
def LHpo (G : KG) (ad : Nat → Nat) (w0 : va_W) (oa : Nat) : Option Value → va_W → Prop := fun r w => (∃ v : Int32, r = some (.int v)) ∧ ∃ (f : Nat → Int64) (w1 : va_W), w = [(oa, aJ G 1 f)] ++ w1 ∧ Wsame G ad w0 w1
theorem isc {w0 : va_W} {x : Nat × va_E} (hl : w0.length = 109) : (List.range 109).map (fun i => (w0 ++ [x])[i]?) = w0.map some := by
  have h9 := range_pick w0
  rw [hl] at h9
  rw [← h9]
  refine List.map_congr_left (fun i hi => ?_)
  have := List.mem_range.mp hi
  exact List.getElem?_append_left (by omega)
theorem isr {w0 : va_W} {x : Nat × va_E} (hl : w0.length = 109) : [109].map (fun i => (w0 ++ [x])[i]?) = [x].map some := by
  show [(w0 ++ [x])[109]?] = _
  rw [List.getElem?_append_right (by omega), hl]
  rfl
theorem cl_hole (l : Launch) (hst : l.stackTraces = false) (G : KG) {ad : Nat → Nat} {w0 : va_W} (hW : WT G ad TX w0) (hl : w0.length = 109) (i k : Int32) (oa : Nat) (f : Nat → Int64) : CtW l G yL_hole cL_hole 5 (some .int) hL_hole { frames := 7, cells := 1, slots := 6, locals := 104 } [.ref (ad 0), .int i, .int k, .ref oa] (w0 ++ [(oa, aJ G 1 f)]) (LHpo G ad w0 oa) := by
  refine ctW_of [(0, .ref (ad 0)), (1, .int i), (2, .int k), (3, .ref oa)] (by decide) (Nat.le_of_ble_eq_true rfl) rfl ?_
  intro p e s m args below meth c A X hE htab
  obtain ⟨en, w1, fs, rfl, -⟩ := hW.2.1 0 _ rfl
  refine z_aload_n X d_lh_0 rfl 3 rfl ?_
  refine z_iconst X d_lh_1 (v := 0) (by decide) ?_
  refine z_aload_n X d_lh_2 rfl 0 rfl ?_
  refine z_iload_n X d_lh_3 rfl 1 rfl ?_
  refine z_iload_n X d_lh_4 rfl 2 rfl ?_
  refine z_catchU X hE k_L_7 (cu_hole l hst G hW i k) d_lh_5 0 (by rw [List.getElem?_append_left (by omega)]; exact w1) rfl rfl ⟨Nat.le_of_ble_eq_true rfl, Nat.le_of_ble_eq_true rfl⟩ ⟨Nat.le_of_ble_eq_true rfl, Nat.le_of_ble_eq_true rfl⟩ rfl (rest := [.int 0, .ref oa]) (As := [.int i, .int k]) rfl (Nat.le_of_ble_eq_true rfl) (List.range 109) [109] (isc hl) (va_nd_range _) (wr := [(oa, aJ G 1 f)]) (isr hl) (by decide) (by decide) ⟨0, 10, 13, 13⟩ htab (by decide) (by decide) cl_L_13 (fun r w2 hp => ?_) (fun q9 w2 hp => ?_)
  · obtain ⟨⟨v, rfl⟩, hs⟩ := hp
    refine z_i2l X d_lh_8 rfl ?_
    refine z_last X d_lh_9 0 rfl (n := 1) (vp_of (by decide) (by decide)) rfl ?_
    refine z_goto X d_lh_10 (tgt := 17) (by decide) ?_
    refine z_iconst X d_lh_17 (v := 0) (by decide) ?_
    exact z_iret X rfl d_lh_18 (Nat.le_refl _) (Nat.le_refl _) ⟨⟨_, rfl⟩, _, w2, rfl, hs⟩
  · skip
    refine z_astore X d_lh_13 (by decide) (lv' := [(4, .ref (q9)), (0, .ref (ad 0)), (1, .int (i)), (2, .int (k)), (3, .ref (oa))]) rfl ?_
    refine z_iconst X d_lh_15 (v := 1) (by decide) ?_
    exact z_iret X rfl d_lh_16 (Nat.le_refl _) (Nat.le_refl _) ⟨⟨_, rfl⟩, f, w2, rfl, hp⟩
theorem cl_row (l : Launch) (hst : l.stackTraces = false) (G : KG) {ad : Nat → Nat} {w0 : va_W} (hW : WT G ad TX w0) (hl : w0.length = 109) (i : Int32) (oa : Nat) (f : Nat → Int64) : CtW l G yL_row cL_row 4 (some .int) hL_row { frames := 7, cells := 1, slots := 6, locals := 103 } [.ref (ad 0), .int i, .ref oa] (w0 ++ [(oa, aJ G 1 f)]) (LHpo G ad w0 oa) := by
  refine ctW_of [(0, .ref (ad 0)), (1, .int i), (2, .ref oa)] (by decide) (Nat.le_of_ble_eq_true rfl) rfl ?_
  intro p e s m args below meth c A X hE htab
  obtain ⟨en, w1, fs, rfl, -⟩ := hW.2.1 0 _ rfl
  refine z_aload_n X d_lr_0 rfl 2 rfl ?_
  refine z_iconst X d_lr_1 (v := 0) (by decide) ?_
  refine z_aload_n X d_lr_2 rfl 0 rfl ?_
  refine z_iload_n X d_lr_3 rfl 1 rfl ?_
  refine z_catchU X hE k_L_15 (cu_row l hst G hW i) d_lr_4 0 (by rw [List.getElem?_append_left (by omega)]; exact w1) rfl rfl ⟨Nat.le_of_ble_eq_true rfl, Nat.le_of_ble_eq_true rfl⟩ ⟨Nat.le_of_ble_eq_true rfl, Nat.le_of_ble_eq_true rfl⟩ rfl (rest := [.int 0, .ref oa]) (As := [.int i]) rfl (Nat.le_of_ble_eq_true rfl) (List.range 109) [109] (isc hl) (va_nd_range _) (wr := [(oa, aJ G 1 f)]) (isr hl) (by decide) (by decide) ⟨0, 8, 11, 13⟩ htab (by decide) (by decide) cl_L_13 (fun r w2 hp => ?_) (fun q9 w2 hp => ?_)
  · obtain ⟨⟨v, rfl⟩, hs⟩ := hp
    refine z_last X d_lr_7 0 rfl (n := 1) (vp_of (by decide) (by decide)) rfl ?_
    refine z_goto X d_lr_8 (tgt := 14) (by decide) ?_
    refine z_iconst X d_lr_14 (v := 0) (by decide) ?_
    exact z_iret X rfl d_lr_15 (Nat.le_refl _) (Nat.le_refl _) ⟨⟨_, rfl⟩, _, w2, rfl, hs⟩
  · skip
    refine z_astore_n X d_lr_11 rfl (by decide) (lv' := [(3, .ref (q9)), (0, .ref (ad 0)), (1, .int (i)), (2, .ref (oa))]) rfl ?_
    refine z_iconst X d_lr_12 (v := 1) (by decide) ?_
    exact z_iret X rfl d_lr_13 (Nat.le_refl _) (Nat.le_refl _) ⟨⟨_, rfl⟩, f, w2, rfl, hp⟩
