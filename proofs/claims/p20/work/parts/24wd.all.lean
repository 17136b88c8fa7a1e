/-! the lowest bit, counted -/
theorem d_bc_0 : decode cJ6_bitCount_0f7a4 0 = .ok (.iload_n 0, 1) := by decide +kernel
theorem d_bc_1 : decode cJ6_bitCount_0f7a4 1 = .ok (.iload_n 0, 1) := by decide +kernel
theorem d_bc_2 : decode cJ6_bitCount_0f7a4 2 = .ok (.iconst 1, 1) := by decide +kernel
theorem d_bc_3 : decode cJ6_bitCount_0f7a4 3 = .ok (.iushr, 1) := by decide +kernel
theorem d_bc_4 : decode cJ6_bitCount_0f7a4 4 = .ok (.ldc_w 265, 3) := by decide +kernel
theorem d_bc_7 : decode cJ6_bitCount_0f7a4 7 = .ok (.iand, 1) := by decide +kernel
theorem d_bc_8 : decode cJ6_bitCount_0f7a4 8 = .ok (.isub, 1) := by decide +kernel
theorem d_bc_9 : decode cJ6_bitCount_0f7a4 9 = .ok (.istore_n 0, 1) := by decide +kernel
theorem d_bc_10 : decode cJ6_bitCount_0f7a4 10 = .ok (.iload_n 0, 1) := by decide +kernel
theorem d_bc_11 : decode cJ6_bitCount_0f7a4 11 = .ok (.ldc_w 266, 3) := by decide +kernel
theorem d_bc_14 : decode cJ6_bitCount_0f7a4 14 = .ok (.iand, 1) := by decide +kernel
theorem d_bc_15 : decode cJ6_bitCount_0f7a4 15 = .ok (.iload_n 0, 1) := by decide +kernel
theorem d_bc_16 : decode cJ6_bitCount_0f7a4 16 = .ok (.iconst 2, 1) := by decide +kernel
theorem d_bc_17 : decode cJ6_bitCount_0f7a4 17 = .ok (.iushr, 1) := by decide +kernel
theorem d_bc_18 : decode cJ6_bitCount_0f7a4 18 = .ok (.ldc_w 266, 3) := by decide +kernel
theorem d_bc_21 : decode cJ6_bitCount_0f7a4 21 = .ok (.iand, 1) := by decide +kernel
theorem d_bc_22 : decode cJ6_bitCount_0f7a4 22 = .ok (.iadd, 1) := by decide +kernel
theorem d_bc_23 : decode cJ6_bitCount_0f7a4 23 = .ok (.istore_n 0, 1) := by decide +kernel
theorem d_bc_24 : decode cJ6_bitCount_0f7a4 24 = .ok (.iload_n 0, 1) := by decide +kernel
theorem d_bc_25 : decode cJ6_bitCount_0f7a4 25 = .ok (.iload_n 0, 1) := by decide +kernel
theorem d_bc_26 : decode cJ6_bitCount_0f7a4 26 = .ok (.iconst 4, 1) := by decide +kernel
theorem d_bc_27 : decode cJ6_bitCount_0f7a4 27 = .ok (.iushr, 1) := by decide +kernel
theorem d_bc_28 : decode cJ6_bitCount_0f7a4 28 = .ok (.iadd, 1) := by decide +kernel
theorem d_bc_29 : decode cJ6_bitCount_0f7a4 29 = .ok (.ldc_w 267, 3) := by decide +kernel
theorem d_bc_32 : decode cJ6_bitCount_0f7a4 32 = .ok (.iand, 1) := by decide +kernel
theorem d_bc_33 : decode cJ6_bitCount_0f7a4 33 = .ok (.istore_n 0, 1) := by decide +kernel
theorem d_bc_34 : decode cJ6_bitCount_0f7a4 34 = .ok (.iload_n 0, 1) := by decide +kernel
theorem d_bc_35 : decode cJ6_bitCount_0f7a4 35 = .ok (.iload_n 0, 1) := by decide +kernel
theorem d_bc_36 : decode cJ6_bitCount_0f7a4 36 = .ok (.bipush 8, 2) := by decide +kernel
theorem d_bc_38 : decode cJ6_bitCount_0f7a4 38 = .ok (.iushr, 1) := by decide +kernel
theorem d_bc_39 : decode cJ6_bitCount_0f7a4 39 = .ok (.iadd, 1) := by decide +kernel
theorem d_bc_40 : decode cJ6_bitCount_0f7a4 40 = .ok (.istore_n 0, 1) := by decide +kernel
theorem d_bc_41 : decode cJ6_bitCount_0f7a4 41 = .ok (.iload_n 0, 1) := by decide +kernel
theorem d_bc_42 : decode cJ6_bitCount_0f7a4 42 = .ok (.iload_n 0, 1) := by decide +kernel
theorem d_bc_43 : decode cJ6_bitCount_0f7a4 43 = .ok (.bipush 16, 2) := by decide +kernel
theorem d_bc_45 : decode cJ6_bitCount_0f7a4 45 = .ok (.iushr, 1) := by decide +kernel
theorem d_bc_46 : decode cJ6_bitCount_0f7a4 46 = .ok (.iadd, 1) := by decide +kernel
theorem d_bc_47 : decode cJ6_bitCount_0f7a4 47 = .ok (.istore_n 0, 1) := by decide +kernel
theorem d_bc_48 : decode cJ6_bitCount_0f7a4 48 = .ok (.iload_n 0, 1) := by decide +kernel
theorem d_bc_49 : decode cJ6_bitCount_0f7a4 49 = .ok (.bipush 63, 2) := by decide +kernel
theorem d_bc_51 : decode cJ6_bitCount_0f7a4 51 = .ok (.iand, 1) := by decide +kernel
theorem d_bc_52 : decode cJ6_bitCount_0f7a4 52 = .ok (.ireturn, 1) := by decide +kernel
theorem d_al_77 : decode cX10_all 77 = .ok (.iload 10, 2) := by decide +kernel
theorem d_al_79 : decode cX10_all 79 = .ok (.iload 10, 2) := by decide +kernel
theorem d_al_81 : decode cX10_all 81 = .ok (.ineg, 1) := by decide +kernel
theorem d_al_82 : decode cX10_all 82 = .ok (.iand, 1) := by decide +kernel
theorem d_al_83 : decode cX10_all 83 = .ok (.iconst 1, 1) := by decide +kernel
theorem d_al_84 : decode cX10_all 84 = .ok (.isub, 1) := by decide +kernel
theorem d_al_85 : decode cX10_all 85 = .ok (.invokestatic 256, 3) := by decide +kernel
theorem d_al_88 : decode cX10_all 88 = .ok (.iaload, 1) := by decide +kernel
def ush (x y : Int32) : Int32 := (x.toUInt32 >>> (y.toUInt32 &&& Int32.toUInt32 31)).toInt32
def B1 (x : Int32) : Int32 := x - (ush x 1 &&& 1431655765)
def B2 (x : Int32) : Int32 := (x &&& 858993459) + (ush x 2 &&& 858993459)
def B3 (x : Int32) : Int32 := (x + ush x 4) &&& 252645135
def B4 (x : Int32) : Int32 := x + ush x 8
def B5 (x : Int32) : Int32 := x + ush x 16
def BC (x : Int32) : Int32 := B5 (B4 (B3 (B2 (B1 x)))) &&& 63
theorem cstv {idx : Nat} {v : Int32} (h : (idx, v.toInt) ∈ cst_J6) : Jvm.Cond.constant RJ6 idx v ∈ BIG := by
  obtain ⟨x, h1, h2⟩ := cst_J6_ok _ h
  have e : x = v := Int32.toInt_inj.mp h1
  rw [e] at h2
  exact h2
theorem ac_bitH (l : Launch) (G : KG) (x : Int32) (w0 : va_W) : Ct l G yJ6_bitCount_0f7a4 cJ6_bitCount_0f7a4 1 (some .int) rm_0 [.int x] w0 (fun r w1 => w1 = w0 ∧ r = some (.int (BC x))) := by
  refine ct_of [(0, .int x)] (by decide) (Nat.le_of_ble_eq_true rfl) rfl ?_
  intro p e s m args below meth c A X
  refine z_iload_n X d_bc_0 rfl 0 rfl ?_
  refine z_iload_n X d_bc_1 rfl 0 rfl ?_
  refine z_iconst X d_bc_2 (v := 1) (by decide) ?_
  refine z_iushr X d_bc_3 rfl ?_
  refine z_ldcw X d_bc_4 (v := 1431655765) (cstv (by decide)) ?_
  refine z_iand X d_bc_7 ?_
  refine z_isub X d_bc_8 ?_
  refine z_istore_n X d_bc_9 rfl (by decide) (lv' := [(0, .int (B1 x))]) rfl ?_
  refine z_iload_n X d_bc_10 rfl 0 rfl ?_
  refine z_ldcw X d_bc_11 (v := 858993459) (cstv (by decide)) ?_
  refine z_iand X d_bc_14 ?_
  refine z_iload_n X d_bc_15 rfl 0 rfl ?_
  refine z_iconst X d_bc_16 (v := 2) (by decide) ?_
  refine z_iushr X d_bc_17 rfl ?_
  refine z_ldcw X d_bc_18 (v := 858993459) (cstv (by decide)) ?_
  refine z_iand X d_bc_21 ?_
  refine z_iadd X d_bc_22 ?_
  refine z_istore_n X d_bc_23 rfl (by decide) (lv' := [(0, .int (B2 (B1 x)))]) rfl ?_
  refine z_iload_n X d_bc_24 rfl 0 rfl ?_
  refine z_iload_n X d_bc_25 rfl 0 rfl ?_
  refine z_iconst X d_bc_26 (v := 4) (by decide) ?_
  refine z_iushr X d_bc_27 rfl ?_
  refine z_iadd X d_bc_28 ?_
  refine z_ldcw X d_bc_29 (v := 252645135) (cstv (by decide)) ?_
  refine z_iand X d_bc_32 ?_
  refine z_istore_n X d_bc_33 rfl (by decide) (lv' := [(0, .int (B3 (B2 (B1 x))))]) rfl ?_
  refine z_iload_n X d_bc_34 rfl 0 rfl ?_
  refine z_iload_n X d_bc_35 rfl 0 rfl ?_
  refine z_bipush X d_bc_36 (v := 8) (by decide) ?_
  refine z_iushr X d_bc_38 rfl ?_
  refine z_iadd X d_bc_39 ?_
  refine z_istore_n X d_bc_40 rfl (by decide) (lv' := [(0, .int (B4 (B3 (B2 (B1 x)))))]) rfl ?_
  refine z_iload_n X d_bc_41 rfl 0 rfl ?_
  refine z_iload_n X d_bc_42 rfl 0 rfl ?_
  refine z_bipush X d_bc_43 (v := 16) (by decide) ?_
  refine z_iushr X d_bc_45 rfl ?_
  refine z_iadd X d_bc_46 ?_
  refine z_istore_n X d_bc_47 rfl (by decide) (lv' := [(0, .int (B5 (B4 (B3 (B2 (B1 x))))))]) rfl ?_
  refine z_iload_n X d_bc_48 rfl 0 rfl ?_
  refine z_bipush X d_bc_49 (v := 63) (by decide) ?_
  refine z_iand X d_bc_51 ?_
  exact z_iret X rfl d_bc_52 (Nat.le_refl 0) (Nat.le_refl 0) ⟨rfl, rfl⟩
def pws : List Nat := [1, 2, 4, 8, 16, 32, 64, 128, 256, 512, 1024, 2048, 4096, 8192, 16384, 32768]
theorem low_chk : (List.range 256).all (fun a => (List.range 256).all (fun b => Nat.beq (256 * a + b) 0 || pws.any (Nat.beq (Nat.land (256 * a + b) (4294967296 - (256 * a + b)))))) = true := by decide +kernel
theorem low_nat {n : Nat} (h0 : n ≠ 0) (h1 : n < 65536) : n &&& (4294967296 - n) ∈ pws := by
  have h2 := List.all_eq_true.mp low_chk (n / 256) (List.mem_range.mpr (by omega))
  have h3 := List.all_eq_true.mp h2 (n % 256) (List.mem_range.mpr (by omega))
  have e : 256 * (n / 256) + n % 256 = n := by omega
  rw [e] at h3
  rcases Bool.or_eq_true _ _ |>.mp h3 with h | h
  · exact absurd (Nat.eq_of_beq_eq_true h) h0
  · obtain ⟨q, hq, e2⟩ := List.any_eq_true.mp h
    have e2 := Nat.eq_of_beq_eq_true e2
    show Nat.land n (4294967296 - n) ∈ pws
    rw [e2]
    exact hq
theorem bc_chk : pws.all (fun q => decide (0 ≤ (BC (Int32.ofNat q - 1)).toInt) && decide ((BC (Int32.ofNat q - 1)).toInt ≤ 15)) = true := by decide +kernel
theorem low_bit {w : Int32} (h0 : 1 ≤ w.toInt) (h1 : w.toInt ≤ 65535) : 0 ≤ (BC ((w &&& -w) - 1)).toInt ∧ (BC ((w &&& -w) - 1)).toInt ≤ 15 := by
  have e0 : (w.toBitVec.toNat : Int) = w.toInt := by
    have : w.toInt = w.toBitVec.toInt := rfl
    rw [this, BitVec.toInt_eq_toNat_cond]
    split
    · rfl
    · rename_i h
      have hl := w.toBitVec.isLt
      rw [this, BitVec.toInt_eq_toNat_cond, if_neg h] at h0
      omega
  have hm := low_nat (n := w.toBitVec.toNat) (by omega) (by omega)
  have e1 : (w &&& -w).toBitVec.toNat = w.toBitVec.toNat &&& (4294967296 - w.toBitVec.toNat) := by
    rw [Int32.toBitVec_and, BitVec.toNat_and, Int32.toBitVec_neg, BitVec.toNat_neg]
    congr 1
    exact Nat.mod_eq_of_lt (by show 4294967296 - _ < 4294967296; omega)
  rw [← e1] at hm
  have e2 : w &&& -w = Int32.ofNat (w &&& -w).toBitVec.toNat := by
    apply Int32.toBitVec_inj.mp
    apply BitVec.eq_of_toNat_eq
    show _ = (BitVec.ofNat 32 _).toNat
    rw [BitVec.toNat_ofNat]
    exact (Nat.mod_eq_of_lt (w &&& -w).toBitVec.isLt).symm
  have h3 := List.all_eq_true.mp bc_chk _ hm
  rw [← e2] at h3
  obtain ⟨h4, h5⟩ := and2 h3
  exact ⟨of_decide_eq_true h4, of_decide_eq_true h5⟩
/-- the hook: the place of the lowest bit -/
noncomputable def hkLow : HKT := fun pc σ => bif Nat.beq pc 77 then (match σ.1.find? (fun q => Nat.beq q.1 10) with
  | some (_, i, _) => bif pId σ.2.2.1 i 0 && (decide (1 ≤ xlo σ.2.2.1 σ.2.2.2.2.1 i) && (decide (xhi σ.2.2.1 σ.2.2.2.2.1 i ≤ 65535) && Nat.ble (scat σ.2.2.1 σ.2.1) 12)) then some [(88, ((σ.1, σ.2.2.2.2.2 :: σ.2.1, (σ.2.2.2.2.2, (0, 0, 15)) :: σ.2.2.1, σ.2.2.2.1, σ.2.2.2.2.1, σ.2.2.2.2.2 + 1) : AS))] else none
  | none => none) else none
theorem hkLow_ok {l : Launch} {G : KG} {nL : Nat} {T : List TE} {ret : Option FieldType} {Rf Rl : Nat} (hRf : 1 ≤ Rf) (hRl : 24 ≤ Rl) : HOK l G T RX10 cX10_all nL ret Rf Rl hkLow := by
  intro p e R s m args below meth c A nm Q kc ks X eRf eRl hkc hks ad mk w0 pin pc σ L hf h k
  obtain ⟨lv, st, ev, ca, rl, nx⟩ := σ
  unfold hkLow at h
  cases hb : Nat.beq pc 77 with
  | false => rw [hb] at h; cases h
  | true =>
    have hb := Nat.eq_of_beq_eq_true hb
    subst hb
    cases hl : lv.find? (fun q => Nat.beq q.1 10) with
    | none =>
      have h : (match lv.find? (fun q => Nat.beq q.1 10) with | some (_, i, _) => _ | none => none) = some L := h
      rw [hl] at h; cases h
    | some q0 =>
      obtain ⟨a0, i, b0⟩ := q0
      have h : (match lv.find? (fun q => Nat.beq q.1 10) with | some (_, i, _) => (bif pId ev i 0 && (decide (1 ≤ xlo ev rl i) && (decide (xhi ev rl i ≤ 65535) && Nat.ble (scat ev st) 12)) then some [(88, ((lv, nx :: st, (nx, (0, 0, 15)) :: ev, ca, rl, nx + 1) : AS))] else none) | none => none) = some L := h
      rw [hl] at h
      have h : (bif pId ev i 0 && (decide (1 ≤ xlo ev rl i) && (decide (xhi ev rl i ≤ 65535) && Nat.ble (scat ev st) 12)) then some [(88, ((lv, nx :: st, (nx, (0, 0, 15)) :: ev, ca, rl, nx + 1) : AS))] else none) = some L := h
      cases hc : (pId ev i 0 && (decide (1 ≤ xlo ev rl i) && (decide (xhi ev rl i ≤ 65535) && Nat.ble (scat ev st) 12))) with
      | false => rw [hc] at h; cases h
      | true =>
        rw [hc] at h
        cases h
        have k := k _ List.mem_cons_self
        obtain ⟨c1, hc⟩ := and2 hc
        obtain ⟨c2, hc⟩ := and2 hc
        obtain ⟨c3, c4⟩ := and2 hc
        have c2 := of_decide_eq_true c2
        have c3 := of_decide_eq_true c3
        intro ν lw sw ws hg
        obtain ⟨h1, h2, h3⟩ := hg
        have h3 : AK G ad T mk w0 pin (lv, st, ev, ca, rl, nx) ν ws := h3
        have h2 : sw = st.map ν := h2
        obtain ⟨w, hw⟩ := h3.int (pId_ok c1)
        have l1 := h3.lo2 i
        have l2 := h3.hi2 i
        rw [hw] at l1 l2
        have l1 : xlo ev rl i ≤ w.toInt := l1
        have l2 : w.toInt ≤ xhi ev rl i := l2
        obtain ⟨b1, b2⟩ := low_bit (w := w) (by omega) (by omega)
        have hq : (a0, i, b0) ∈ lv := List.mem_of_find?_eq_some hl
        have hp0 := List.find?_some hl
        have hp0 : Nat.beq a0 10 = true := hp0
        have hp0 := Nat.eq_of_beq_eq_true hp0
        have hmem : (10, Value.int w) ∈ lw := by
          have h1 : lw = lv.map (fun q => (q.1, ν q.2.1)) := h1
          rw [h1, ← hp0, ← hw]
          exact List.mem_map.mpr ⟨(a0, i, b0), hq, rfl⟩
        obtain ⟨j, hj⟩ := List.getElem?_of_mem hmem
        rw [h2]
        refine z_iload X d_al_77 j hj (z_iload X d_al_79 j hj (z_ineg X d_al_81 (z_iand X d_al_82 (z_iconst X d_al_83 (v := 1) (by decide) (z_isub X d_al_84 ?_)))))
        refine wide_callS (rest := st.map ν) X k_10_256 (ac_bitH l G _ ws) d_al_85 ⟨by show 0 + 1 ≤ R.frames; omega, by show 12 + (1 + 11) + 0 ≤ R.locals; omega⟩ ⟨hkc, hks⟩ rfl rfl (Nat.le_trans (cat12_ok h3 st) (Nat.le_of_ble_eq_true c4)) (fun r w1 hp => ?_)
        obtain ⟨rfl, rfl⟩ := hp
        exact k _ _ _ _ (AG.push (nr := []) ⟨h1, rfl, h3⟩ hf (vty_i b1 b2) (fun q hq => absurd hq List.not_mem_nil))
