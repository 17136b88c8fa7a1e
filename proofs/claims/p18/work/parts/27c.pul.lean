/-! the pulls: their codes are good ones -/
def gcode (x : Int32) : Prop := 0 ≤ x.toInt ∧ x.toInt ≤ 15480 ∧ x.toInt % 128 ≤ 120
def GC (G : KG) (ws : va_W) : Prop := ∃ (a : Nat) (f : Nat → Int32), ws[111]? = some (a, aI G 14641 f) ∧ ∀ k, k < 14641 → gcode (f k)
theorem GC.frm {G : KG} {mk : List (Nat × Nat)} {w0 ws : va_W} (h : GC G w0) (hF : FRM mk w0 ws) (hm : mkq mk 111 0 = false) : GC G ws := by
  obtain ⟨a, f, h1, h2⟩ := h
  obtain ⟨b, hb⟩ := hF.arr (k := 111) hm h1
  exact ⟨b, f, hb, h2⟩
theorem and127 {x : Int32} (h : 0 ≤ x.toInt) : (x &&& 127).toInt = x.toInt % 128 := by
  obtain ⟨a1, a2⟩ := i32_nn h
  have e1 : (x &&& 127).toBitVec.toNat = x.toBitVec.toNat % 128 := by
    show (x.toBitVec &&& (127 : Int32).toBitVec).toNat = _
    rw [BitVec.toNat_and]
    exact Nat.and_two_pow_sub_one_eq_mod _ 7
  rw [i32_of e1 (by omega)]
  omega
theorem mkcode {i j : Int32} (i0 : 0 ≤ i.toInt) (i1 : i.toInt ≤ 120) (j0 : 0 ≤ j.toInt) (j1 : j.toInt ≤ 120) : gcode ((i <<< ((7 : Int32) &&& 31)) ||| j) := by
  have e7 : (7 : Int32).toInt = 7 := rfl
  have hs : (i <<< ((7 : Int32) &&& 31)).toInt = i.toInt * 128 := shl_eq i0 (by decide) (by decide) (by rw [e7]; show i.toInt * 128 < _; omega)
  obtain ⟨a1, a2⟩ := i32_nn (x := i <<< ((7 : Int32) &&& 31)) (by omega)
  obtain ⟨b1, b2⟩ := i32_nn j0
  have e1 : ((i <<< ((7 : Int32) &&& 31)) ||| j).toBitVec.toNat = (i <<< ((7 : Int32) &&& 31)).toBitVec.toNat ||| j.toBitVec.toNat := by
    show ((i <<< ((7 : Int32) &&& 31)).toBitVec ||| j.toBitVec).toNat = _
    rw [BitVec.toNat_or]
  have e2 : (i <<< ((7 : Int32) &&& 31)).toBitVec.toNat = 2 ^ 7 * i.toInt.toNat := by omega
  rw [e2, ← Nat.two_pow_add_eq_or_of_lt (by omega : j.toBitVec.toNat < 2 ^ 7)] at e1
  have e3 := i32_of e1 (by omega)
  have e4 : ((2 ^ 7 * i.toInt.toNat + j.toBitVec.toNat : Nat) : Int) = i.toInt * 128 + j.toInt := by omega
  rw [e4] at e3
  exact ⟨by omega, by omega, by omega⟩
abbrev rm_sm : Room := { frames := 0, cells := 0, slots := 0, locals := 0 }
theorem d_sm_0 : decode cX3_sizeMade 0 = .ok (.aload_n 0, 1) := by decide +kernel
theorem d_sm_1 : decode cX3_sizeMade 1 = .ok (.getfield 18, 3) := by decide +kernel
theorem d_sm_4 : decode cX3_sizeMade 4 = .ok (.iload_n 1, 1) := by decide +kernel
theorem d_sm_5 : decode cX3_sizeMade 5 = .ok (.bipush 7, 2) := by decide +kernel
theorem d_sm_7 : decode cX3_sizeMade 7 = .ok (.ishr, 1) := by decide +kernel
theorem d_sm_8 : decode cX3_sizeMade 8 = .ok (.laload, 1) := by decide +kernel
theorem d_sm_9 : decode cX3_sizeMade 9 = .ok (.aload_n 0, 1) := by decide +kernel
theorem d_sm_10 : decode cX3_sizeMade 10 = .ok (.getfield 22, 3) := by decide +kernel
theorem d_sm_13 : decode cX3_sizeMade 13 = .ok (.iload_n 1, 1) := by decide +kernel
theorem d_sm_14 : decode cX3_sizeMade 14 = .ok (.bipush 127, 2) := by decide +kernel
theorem d_sm_16 : decode cX3_sizeMade 16 = .ok (.iand, 1) := by decide +kernel
theorem d_sm_17 : decode cX3_sizeMade 17 = .ok (.laload, 1) := by decide +kernel
theorem d_sm_18 : decode cX3_sizeMade 18 = .ok (.ladd, 1) := by decide +kernel
theorem d_sm_19 : decode cX3_sizeMade 19 = .ok (.lreturn, 1) := by decide +kernel
theorem d_ma_0 : decode cX3_mostAlike 0 = .ok (.iconst 2, 1) := by decide +kernel
theorem d_ma_1 : decode cX3_mostAlike 1 = .ok (.istore_n 2, 1) := by decide +kernel
theorem d_ma_2 : decode cX3_mostAlike 2 = .ok (.iload_n 2, 1) := by decide +kernel
theorem d_ma_3 : decode cX3_mostAlike 3 = .ok (.ldc 25, 2) := by decide +kernel
theorem d_ma_5 : decode cX3_mostAlike 5 = .ok (.if_icmp .ge 20, 3) := by decide +kernel
theorem d_ma_8 : decode cX3_mostAlike 8 = .ok (.iload_n 2, 1) := by decide +kernel
theorem d_ma_9 : decode cX3_mostAlike 9 = .ok (.iconst 2, 1) := by decide +kernel
theorem d_ma_10 : decode cX3_mostAlike 10 = .ok (.aload_n 0, 1) := by decide +kernel
theorem d_ma_11 : decode cX3_mostAlike 11 = .ok (.getfield 32, 3) := by decide +kernel
theorem d_ma_14 : decode cX3_mostAlike 14 = .ok (.imul, 1) := by decide +kernel
theorem d_ma_15 : decode cX3_mostAlike 15 = .ok (.if_icmp .ge 10, 3) := by decide +kernel
theorem d_ma_18 : decode cX3_mostAlike 18 = .ok (.iload_n 2, 1) := by decide +kernel
theorem d_ma_19 : decode cX3_mostAlike 19 = .ok (.iconst 2, 1) := by decide +kernel
theorem d_ma_20 : decode cX3_mostAlike 20 = .ok (.imul, 1) := by decide +kernel
theorem d_ma_21 : decode cX3_mostAlike 21 = .ok (.istore_n 2, 1) := by decide +kernel
theorem d_ma_22 : decode cX3_mostAlike 22 = .ok (.goto (-20), 3) := by decide +kernel
theorem d_ma_25 : decode cX3_mostAlike 25 = .ok (.iconst 0, 1) := by decide +kernel
theorem d_ma_26 : decode cX3_mostAlike 26 = .ok (.istore_n 3, 1) := by decide +kernel
theorem d_ma_27 : decode cX3_mostAlike 27 = .ok (.iload_n 3, 1) := by decide +kernel
theorem d_ma_28 : decode cX3_mostAlike 28 = .ok (.iload_n 2, 1) := by decide +kernel
theorem d_ma_29 : decode cX3_mostAlike 29 = .ok (.if_icmp .ge 16, 3) := by decide +kernel
theorem d_ma_32 : decode cX3_mostAlike 32 = .ok (.aload_n 0, 1) := by decide +kernel
theorem d_ma_33 : decode cX3_mostAlike 33 = .ok (.getfield 29, 3) := by decide +kernel
theorem d_ma_36 : decode cX3_mostAlike 36 = .ok (.iload_n 3, 1) := by decide +kernel
theorem d_ma_37 : decode cX3_mostAlike 37 = .ok (.iconst 0, 1) := by decide +kernel
theorem d_ma_38 : decode cX3_mostAlike 38 = .ok (.iastore, 1) := by decide +kernel
theorem d_ma_39 : decode cX3_mostAlike 39 = .ok (.iinc 3 1, 3) := by decide +kernel
theorem d_ma_42 : decode cX3_mostAlike 42 = .ok (.goto (-15), 3) := by decide +kernel
theorem d_ma_45 : decode cX3_mostAlike 45 = .ok (.iconst 0, 1) := by decide +kernel
theorem d_ma_46 : decode cX3_mostAlike 46 = .ok (.istore_n 3, 1) := by decide +kernel
theorem d_ma_47 : decode cX3_mostAlike 47 = .ok (.iconst 0, 1) := by decide +kernel
theorem d_ma_48 : decode cX3_mostAlike 48 = .ok (.istore 4, 2) := by decide +kernel
theorem d_ma_50 : decode cX3_mostAlike 50 = .ok (.iload 4, 2) := by decide +kernel
theorem d_ma_52 : decode cX3_mostAlike 52 = .ok (.aload_n 0, 1) := by decide +kernel
theorem d_ma_53 : decode cX3_mostAlike 53 = .ok (.getfield 32, 3) := by decide +kernel
theorem d_ma_56 : decode cX3_mostAlike 56 = .ok (.if_icmp .ge 35, 3) := by decide +kernel
theorem d_ma_59 : decode cX3_mostAlike 59 = .ok (.iload_n 3, 1) := by decide +kernel
theorem d_ma_60 : decode cX3_mostAlike 60 = .ok (.iload_n 1, 1) := by decide +kernel
theorem d_ma_61 : decode cX3_mostAlike 61 = .ok (.if_icmp .ge 30, 3) := by decide +kernel
theorem d_ma_64 : decode cX3_mostAlike 64 = .ok (.iload_n 3, 1) := by decide +kernel
theorem d_ma_65 : decode cX3_mostAlike 65 = .ok (.aload_n 0, 1) := by decide +kernel
theorem d_ma_66 : decode cX3_mostAlike 66 = .ok (.aload_n 0, 1) := by decide +kernel
theorem d_ma_67 : decode cX3_mostAlike 67 = .ok (.aload_n 0, 1) := by decide +kernel
theorem d_ma_68 : decode cX3_mostAlike 68 = .ok (.getfield 15, 3) := by decide +kernel
theorem d_ma_71 : decode cX3_mostAlike 71 = .ok (.iload 4, 2) := by decide +kernel
theorem d_ma_73 : decode cX3_mostAlike 73 = .ok (.iaload, 1) := by decide +kernel
theorem d_ma_74 : decode cX3_mostAlike 74 = .ok (.invokevirtual 42, 3) := by decide +kernel
theorem d_ma_77 : decode cX3_mostAlike 77 = .ok (.iload_n 2, 1) := by decide +kernel
theorem d_ma_78 : decode cX3_mostAlike 78 = .ok (.invokevirtual 46, 3) := by decide +kernel
theorem d_ma_81 : decode cX3_mostAlike 81 = .ok (.invokestatic 50, 3) := by decide +kernel
theorem d_ma_84 : decode cX3_mostAlike 84 = .ok (.istore_n 3, 1) := by decide +kernel
theorem d_ma_85 : decode cX3_mostAlike 85 = .ok (.iinc 4 1, 3) := by decide +kernel
theorem d_ma_88 : decode cX3_mostAlike 88 = .ok (.goto (-38), 3) := by decide +kernel
theorem d_ma_91 : decode cX3_mostAlike 91 = .ok (.iload_n 3, 1) := by decide +kernel
theorem d_ma_92 : decode cX3_mostAlike 92 = .ok (.ireturn, 1) := by decide +kernel
theorem d_ga_0 : decode cX3_gather 0 = .ok (.aload_n 0, 1) := by decide +kernel
theorem d_ga_1 : decode cX3_gather 1 = .ok (.iconst 0, 1) := by decide +kernel
theorem d_ga_2 : decode cX3_gather 2 = .ok (.putfield 32, 3) := by decide +kernel
theorem d_ga_5 : decode cX3_gather 5 = .ok (.iconst 0, 1) := by decide +kernel
theorem d_ga_6 : decode cX3_gather 6 = .ok (.istore_n 2, 1) := by decide +kernel
theorem d_ga_7 : decode cX3_gather 7 = .ok (.iload_n 2, 1) := by decide +kernel
theorem d_ga_8 : decode cX3_gather 8 = .ok (.bipush 121, 2) := by decide +kernel
theorem d_ga_10 : decode cX3_gather 10 = .ok (.if_icmp .ge 65, 3) := by decide +kernel
theorem d_ga_13 : decode cX3_gather 13 = .ok (.iconst 0, 1) := by decide +kernel
theorem d_ga_14 : decode cX3_gather 14 = .ok (.istore_n 3, 1) := by decide +kernel
theorem d_ga_15 : decode cX3_gather 15 = .ok (.iload_n 3, 1) := by decide +kernel
theorem d_ga_16 : decode cX3_gather 16 = .ok (.bipush 121, 2) := by decide +kernel
theorem d_ga_18 : decode cX3_gather 18 = .ok (.if_icmp .ge 51, 3) := by decide +kernel
theorem d_ga_21 : decode cX3_gather 21 = .ok (.aload_n 1, 1) := by decide +kernel
theorem d_ga_22 : decode cX3_gather 22 = .ok (.iload_n 2, 1) := by decide +kernel
theorem d_ga_23 : decode cX3_gather 23 = .ok (.bipush 60, 2) := by decide +kernel
theorem d_ga_25 : decode cX3_gather 25 = .ok (.isub, 1) := by decide +kernel
theorem d_ga_26 : decode cX3_gather 26 = .ok (.iload_n 3, 1) := by decide +kernel
theorem d_ga_27 : decode cX3_gather 27 = .ok (.bipush 60, 2) := by decide +kernel
theorem d_ga_29 : decode cX3_gather 29 = .ok (.isub, 1) := by decide +kernel
theorem d_ga_30 : decode cX3_gather 30 = .ok (.invokevirtual 36, 3) := by decide +kernel
theorem d_ga_33 : decode cX3_gather 33 = .ok (.bipush (-2), 2) := by decide +kernel
theorem d_ga_35 : decode cX3_gather 35 = .ok (.if_icmp .ne 28, 3) := by decide +kernel
theorem d_ga_38 : decode cX3_gather 38 = .ok (.aload_n 0, 1) := by decide +kernel
theorem d_ga_39 : decode cX3_gather 39 = .ok (.getfield 15, 3) := by decide +kernel
theorem d_ga_42 : decode cX3_gather 42 = .ok (.aload_n 0, 1) := by decide +kernel
theorem d_ga_43 : decode cX3_gather 43 = .ok (.getfield 32, 3) := by decide +kernel
theorem d_ga_46 : decode cX3_gather 46 = .ok (.iload_n 2, 1) := by decide +kernel
theorem d_ga_47 : decode cX3_gather 47 = .ok (.bipush 7, 2) := by decide +kernel
theorem d_ga_49 : decode cX3_gather 49 = .ok (.ishl, 1) := by decide +kernel
theorem d_ga_50 : decode cX3_gather 50 = .ok (.iload_n 3, 1) := by decide +kernel
theorem d_ga_51 : decode cX3_gather 51 = .ok (.ior, 1) := by decide +kernel
theorem d_ga_52 : decode cX3_gather 52 = .ok (.iastore, 1) := by decide +kernel
theorem d_ga_53 : decode cX3_gather 53 = .ok (.aload_n 0, 1) := by decide +kernel
theorem d_ga_54 : decode cX3_gather 54 = .ok (.dup, 1) := by decide +kernel
theorem d_ga_55 : decode cX3_gather 55 = .ok (.getfield 32, 3) := by decide +kernel
theorem d_ga_58 : decode cX3_gather 58 = .ok (.iconst 1, 1) := by decide +kernel
theorem d_ga_59 : decode cX3_gather 59 = .ok (.iadd, 1) := by decide +kernel
theorem d_ga_60 : decode cX3_gather 60 = .ok (.putfield 32, 3) := by decide +kernel
theorem d_ga_63 : decode cX3_gather 63 = .ok (.iinc 3 1, 3) := by decide +kernel
theorem d_ga_66 : decode cX3_gather 66 = .ok (.goto (-51), 3) := by decide +kernel
theorem d_ga_69 : decode cX3_gather 69 = .ok (.iinc 2 1, 3) := by decide +kernel
theorem d_ga_72 : decode cX3_gather 72 = .ok (.goto (-65), 3) := by decide +kernel
theorem d_ga_75 : decode cX3_gather 75 = .ok (.return_, 1) := by decide +kernel
theorem d_ka_0 : decode cX3_keepAlike 0 = .ok (.aload_n 0, 1) := by decide +kernel
theorem d_ka_1 : decode cX3_keepAlike 1 = .ok (.iload_n 1, 1) := by decide +kernel
theorem d_ka_2 : decode cX3_keepAlike 2 = .ok (.bipush 60, 2) := by decide +kernel
theorem d_ka_4 : decode cX3_keepAlike 4 = .ok (.iadd, 1) := by decide +kernel
theorem d_ka_5 : decode cX3_keepAlike 5 = .ok (.bipush 7, 2) := by decide +kernel
theorem d_ka_7 : decode cX3_keepAlike 7 = .ok (.ishl, 1) := by decide +kernel
theorem d_ka_8 : decode cX3_keepAlike 8 = .ok (.iload_n 2, 1) := by decide +kernel
theorem d_ka_9 : decode cX3_keepAlike 9 = .ok (.bipush 60, 2) := by decide +kernel
theorem d_ka_11 : decode cX3_keepAlike 11 = .ok (.iadd, 1) := by decide +kernel
theorem d_ka_12 : decode cX3_keepAlike 12 = .ok (.ior, 1) := by decide +kernel
theorem d_ka_13 : decode cX3_keepAlike 13 = .ok (.invokevirtual 42, 3) := by decide +kernel
theorem d_ka_16 : decode cX3_keepAlike 16 = .ok (.lstore_n 3, 1) := by decide +kernel
theorem d_ka_17 : decode cX3_keepAlike 17 = .ok (.iconst 0, 1) := by decide +kernel
theorem d_ka_18 : decode cX3_keepAlike 18 = .ok (.istore 5, 2) := by decide +kernel
theorem d_ka_20 : decode cX3_keepAlike 20 = .ok (.iconst 0, 1) := by decide +kernel
theorem d_ka_21 : decode cX3_keepAlike 21 = .ok (.istore 6, 2) := by decide +kernel
theorem d_ka_23 : decode cX3_keepAlike 23 = .ok (.iload 6, 2) := by decide +kernel
theorem d_ka_25 : decode cX3_keepAlike 25 = .ok (.aload_n 0, 1) := by decide +kernel
theorem d_ka_26 : decode cX3_keepAlike 26 = .ok (.getfield 32, 3) := by decide +kernel
theorem d_ka_29 : decode cX3_keepAlike 29 = .ok (.if_icmp .ge 42, 3) := by decide +kernel
theorem d_ka_32 : decode cX3_keepAlike 32 = .ok (.aload_n 0, 1) := by decide +kernel
theorem d_ka_33 : decode cX3_keepAlike 33 = .ok (.aload_n 0, 1) := by decide +kernel
theorem d_ka_34 : decode cX3_keepAlike 34 = .ok (.getfield 15, 3) := by decide +kernel
theorem d_ka_37 : decode cX3_keepAlike 37 = .ok (.iload 6, 2) := by decide +kernel
theorem d_ka_39 : decode cX3_keepAlike 39 = .ok (.iaload, 1) := by decide +kernel
theorem d_ka_40 : decode cX3_keepAlike 40 = .ok (.invokevirtual 42, 3) := by decide +kernel
theorem d_ka_43 : decode cX3_keepAlike 43 = .ok (.lload_n 3, 1) := by decide +kernel
theorem d_ka_44 : decode cX3_keepAlike 44 = .ok (.lcmp, 1) := by decide +kernel
theorem d_ka_45 : decode cX3_keepAlike 45 = .ok (.ifCond .ne 20, 3) := by decide +kernel
theorem d_ka_48 : decode cX3_keepAlike 48 = .ok (.aload_n 0, 1) := by decide +kernel
theorem d_ka_49 : decode cX3_keepAlike 49 = .ok (.getfield 15, 3) := by decide +kernel
theorem d_ka_52 : decode cX3_keepAlike 52 = .ok (.iload 5, 2) := by decide +kernel
theorem d_ka_54 : decode cX3_keepAlike 54 = .ok (.aload_n 0, 1) := by decide +kernel
theorem d_ka_55 : decode cX3_keepAlike 55 = .ok (.getfield 15, 3) := by decide +kernel
theorem d_ka_58 : decode cX3_keepAlike 58 = .ok (.iload 6, 2) := by decide +kernel
theorem d_ka_60 : decode cX3_keepAlike 60 = .ok (.iaload, 1) := by decide +kernel
theorem d_ka_61 : decode cX3_keepAlike 61 = .ok (.iastore, 1) := by decide +kernel
theorem d_ka_62 : decode cX3_keepAlike 62 = .ok (.iinc 5 1, 3) := by decide +kernel
theorem d_ka_65 : decode cX3_keepAlike 65 = .ok (.iinc 6 1, 3) := by decide +kernel
theorem d_ka_68 : decode cX3_keepAlike 68 = .ok (.goto (-45), 3) := by decide +kernel
theorem d_ka_71 : decode cX3_keepAlike 71 = .ok (.aload_n 0, 1) := by decide +kernel
theorem d_ka_72 : decode cX3_keepAlike 72 = .ok (.iload 5, 2) := by decide +kernel
theorem d_ka_74 : decode cX3_keepAlike 74 = .ok (.putfield 32, 3) := by decide +kernel
theorem d_ka_77 : decode cX3_keepAlike 77 = .ok (.return_, 1) := by decide +kernel
theorem ac_sizeMade (l : Launch) (G : KG) {ad : Nat → Nat} {ws : va_W} (hW : WT G ad TXP ws) {x : Int32} (hx : gcode x) : Ct l G yX3_sizeMade cX3_sizeMade 2 (some .long) rm_sm [.ref (ad 109), .int x] ws (fun r w1 => w1 = ws ∧ ∃ v : Int64, r = some (.long v)) := by
  refine ct_of [(0, .ref (ad 109)), (1, .int x)] (by decide) (Nat.le_of_ble_eq_true rfl) rfl ?_
  intro p e s m args below meth c A X
  obtain ⟨x0, x1, x2⟩ := hx
  obtain ⟨e1, h1, h2⟩ := hW.arr (k := 112) rfl
  obtain ⟨sx, rfl⟩ : ∃ f : Nat → Int64, e1 = aJ G 121 f := by
    rcases h2 with ⟨h9, -⟩ | ⟨-, f, rfl⟩ | ⟨h9, -⟩ | ⟨h9, -⟩
    · exact absurd h9 (by decide)
    · exact ⟨f, rfl⟩
    · exact absurd h9 (by decide)
    · exact absurd h9 (by decide)
  obtain ⟨e2, h3, h4⟩ := hW.arr (k := 113) rfl
  obtain ⟨sy, rfl⟩ : ∃ f : Nat → Int64, e2 = aJ G 121 f := by
    rcases h4 with ⟨h9, -⟩ | ⟨-, f, rfl⟩ | ⟨h9, -⟩ | ⟨h9, -⟩
    · exact absurd h9 (by decide)
    · exact ⟨f, rfl⟩
    · exact absurd h9 (by decide)
    · exact absurd h9 (by decide)
  have g1 := shr_bd (x := x) (y := 7) (ly := 7) x0 (by decide) (by decide)
  have g2 : x.toInt / ((2 ^ 7 : Nat) : Int) ≤ 120 := by show x.toInt / 128 ≤ 120; omega
  have g3 := and127 x0
  have v1 : vp_in ((x) >>> (((7 : Int32)) &&& 31)) 121 := vp_of g1.1 (by have := g1.2; omega)
  have v2 : vp_in ((x) &&& ((127 : Int32))) 121 := vp_of (by rw [g3]; omega) (by rw [g3]; omega)
  refine z_aload_n X d_sm_0 rfl 0 rfl ?_
  refine hget (T := TXP) X hW (idx := 18) (fld_3_ok _ (by decide : (18, 3, 5) ∈ fld_3)) d_sm_1 rfl (fget_ref hW rfl rfl) ?_
  refine z_iload_n X d_sm_4 rfl 1 rfl ?_
  refine z_bipush X d_sm_5 (v := 7) (by decide) ?_
  refine z_ishr X d_sm_7 ?_
  refine z_lald X d_sm_8 112 (h1) (v1) rfl ?_
  refine z_aload_n X d_sm_9 rfl 0 rfl ?_
  refine hget (T := TXP) X hW (idx := 22) (fld_3_ok _ (by decide : (22, 3, 6) ∈ fld_3)) d_sm_10 rfl (fget_ref hW rfl rfl) ?_
  refine z_iload_n X d_sm_13 rfl 1 rfl ?_
  refine z_bipush X d_sm_14 (v := 127) (by decide) ?_
  refine z_iand X d_sm_16 ?_
  refine z_lald X d_sm_17 113 (h3) (v2) rfl ?_
  refine z_ladd X d_sm_18 ?_
  exact z_lret X rfl d_sm_19 (Nat.le_refl 0) (Nat.le_refl 0) ⟨rfl, _, rfl⟩
/-- the hook: the SIZE of a pull that is kept -/
def hkMost : HKT := fun pc σ => bif Nat.beq pc 65 then (match σ.1.find? (fun q => Nat.beq q.1 0), σ.1.find? (fun q => Nat.beq q.1 4) with
  | some (_, t, _), some (_, i, _) => bif pId σ.2.2.1 t 2 && (decide ((aty σ.2.2.1 t).2.1 = 109) && (pId σ.2.2.1 i 0 && (decide (0 ≤ xlo σ.2.2.1 σ.2.2.2.2.1 i) && (decide (xhi σ.2.2.1 σ.2.2.2.2.1 i ≤ 14640) && Nat.ble (scat σ.2.2.1 (t :: σ.2.1)) 8)))) then some [(77, ((σ.1, σ.2.2.2.2.2 :: t :: σ.2.1, (σ.2.2.2.2.2, (1, lMin, lMax)) :: σ.2.2.1, σ.2.2.2.1, σ.2.2.2.2.1, σ.2.2.2.2.2 + 1) : AS))] else none
  | _, _ => none) else none
theorem lw_find {lv : ALv} {ν : Nat → Value} {lw : List (Nat × Value)} (h1 : lw = lv.map (fun q => (q.1, ν q.2.1))) {k a i : Nat} {b : Bool} (hl : lv.find? (fun q => Nat.beq q.1 k) = some (a, i, b)) : ∃ j : Nat, lw[j]? = some (k, ν i) := by
  have hq : (a, i, b) ∈ lv := List.mem_of_find?_eq_some hl
  have hp0 := List.find?_some hl
  have hp0 : Nat.beq a k = true := hp0
  have hp0 := Nat.eq_of_beq_eq_true hp0
  have hmem : (k, ν i) ∈ lw := by
    rw [h1, ← hp0]
    exact List.mem_map.mpr ⟨(a, i, b), hq, rfl⟩
  exact List.getElem?_of_mem hmem
theorem afr_push {lv : ALv} {st : List Nat} {ev : AEv} {ca : ACa} {rl : ARl} {nx t : Nat} (hf : afr (lv, st, ev, ca, rl, nx) = true) (ht : t < nx) : afr (lv, t :: st, ev, ca, rl, nx) = true := by
  unfold afr at hf ⊢
  simp only [Bool.and_eq_true, List.all_cons] at hf ⊢
  exact ⟨hf.1, hf.2.1, ⟨Nat.ble_eq_true_of_le ht, hf.2.2.1⟩, hf.2.2.2⟩
theorem hkMost_ok {l : Launch} {G : KG} {nL : Nat} {ret : Option FieldType} {Rf Rl : Nat} {mk : List (Nat × Nat)} {w0 : va_W} (hP : GC G w0) (hmk : mkq mk 111 0 = false) (hRf : 1 ≤ Rf) (hRl : 25 ≤ Rl) : HOKP l G TXP RX3 cX3_mostAlike nL ret Rf Rl hkMost mk w0 := by
  intro p e R s m args below meth c A nm Q kc ks X eRf eRl hkc hks ad pin pc σ L hf h k
  obtain ⟨lv, st, ev, ca, rl, nx⟩ := σ
  unfold hkMost at h
  cases hb : Nat.beq pc 65 with
  | false => rw [hb] at h; cases h
  | true =>
    have hb := Nat.eq_of_beq_eq_true hb
    subst hb
    rw [Nat.beq_refl] at h
    dsimp only [cond] at h
    cases hl0 : lv.find? (fun q => Nat.beq q.1 0) with
    | none => rw [hl0] at h; cases h
    | some q0 =>
      cases hl4 : lv.find? (fun q => Nat.beq q.1 4) with
      | none => rw [hl0, hl4] at h; cases h
      | some q4 =>
        obtain ⟨a0, t, b0⟩ := q0
        obtain ⟨a4, i, b4⟩ := q4
        rw [hl0, hl4] at h
        have h : (bif pId ev t 2 && (decide ((aty ev t).2.1 = 109) && (pId ev i 0 && (decide (0 ≤ xlo ev rl i) && (decide (xhi ev rl i ≤ 14640) && Nat.ble (scat ev (t :: st)) 8)))) then some [(77, ((lv, nx :: t :: st, (nx, (1, lMin, lMax)) :: ev, ca, rl, nx + 1) : AS))] else none) = some L := h
        cases hc : (pId ev t 2 && (decide ((aty ev t).2.1 = 109) && (pId ev i 0 && (decide (0 ≤ xlo ev rl i) && (decide (xhi ev rl i ≤ 14640) && Nat.ble (scat ev (t :: st)) 8))))) with
        | false => rw [hc] at h; cases h
        | true =>
          rw [hc] at h
          cases h
          have k := k _ List.mem_cons_self
          obtain ⟨c0, hc⟩ := and2 hc
          obtain ⟨c1, hc⟩ := and2 hc
          obtain ⟨c2, hc⟩ := and2 hc
          obtain ⟨c3, hc⟩ := and2 hc
          obtain ⟨c4, c5⟩ := and2 hc
          have c1 := of_decide_eq_true c1
          have c3 := of_decide_eq_true c3
          have c4 := of_decide_eq_true c4
          intro ν lw sw ws hg
          obtain ⟨h1, h2, h3⟩ := hg
          have h3 : AK G ad TXP mk w0 pin (lv, st, ev, ca, rl, nx) ν ws := h3
          have h2 : sw = st.map ν := h2
          have h1 : lw = lv.map (fun q => (q.1, ν q.2.1)) := h1
          obtain ⟨x, hx⟩ := h3.int (pId_ok c2)
          have ht := h3.ref (pId_ok c0)
          rw [c1] at ht
          have ht : ν t = .ref (ad 109) := ht
          have l1 := h3.lo2 i
          have l2 := h3.hi2 i
          rw [hx] at l1 l2
          have l1 : xlo ev rl i ≤ x.toInt := l1
          have l2 : x.toInt ≤ xhi ev rl i := l2
          obtain ⟨j0, hj0⟩ := lw_find h1 hl0
          obtain ⟨j4, hj4⟩ := lw_find h1 hl4
          rw [ht] at hj0
          rw [hx] at hj4
          have hW := h3.2.2.2.2.2.1
          obtain ⟨b, f, g1, g2⟩ := hP.frm h3.2.2.2.2.2.2 hmk
          have g1 : ws[111]? = some (ad 111, aI G 14641 f) := by
            have g9 := g1
            rw [WT.adr (T := TXP) hW rfl g1] at g9
            exact g9
          have vx : vp_in x 14641 := vp_of (by omega) (by omega)
          have hgx := g2 x.toNatClampNeg (by have e9 : x.toNatClampNeg = x.toInt.toNat := rfl; omega)
          have htm : t < nx := (afr_ok hf).2.1 (a0, t, b0) (List.mem_of_find?_eq_some hl0)
          rw [h2]
          refine z_aload_n X d_ma_65 rfl j0 hj0 (z_aload_n X d_ma_66 rfl j0 hj0 (z_aload_n X d_ma_67 rfl j0 hj0 (hget (T := TXP) X hW (idx := 15) (fld_3_ok _ (by decide : (15, 3, 4) ∈ fld_3)) d_ma_68 rfl (fget_ref hW rfl rfl) (z_iload X d_ma_71 j4 hj4 (z_iald X d_ma_73 111 g1 vx rfl ?_)))))
          refine hcallV (T := TXP) (k := 109) (rest := .ref (ad 109) :: st.map ν) (avs := [.int (f x.toNatClampNeg)]) X k_3_42 (ac_sizeMade l G hW hgx) d_ma_74 hW rfl rfl rfl rfl ⟨by show 0 + 1 ≤ R.frames; omega, by show 8 + (2 + 11) + 0 ≤ R.locals; omega⟩ ⟨hkc, hks⟩ (by rw [← ht]; exact Nat.le_trans (cat12_ok h3 (t :: st)) (Nat.le_of_ble_eq_true c5)) rfl (fun r w1 hp => ?_)
          obtain ⟨rfl, v, rfl⟩ := hp
          have h3t : AG G ad TXP mk w0 pin (lv, t :: st, ev, ca, rl, nx) ν lw ((t :: st).map ν) w1 := ⟨h1, rfl, h3⟩
          have := k _ _ _ _ (AG.push (nr := []) h3t (afr_push hf htm) (vty_l0 v) (fun q hq => absurd hq List.not_mem_nil))
          rw [show (t :: st).map ν = .ref (ad 109) :: st.map ν by rw [List.map_cons, ht]] at this
          exact this
