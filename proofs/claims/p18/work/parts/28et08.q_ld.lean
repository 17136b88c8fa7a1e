/-! the leads: exactly -/
def lw (fp fh fx : Nat → Int32) (w : Int) : Nat → Int32
  | 0 => 0
  | n + 1 => if (fp n).toInt = w then lw fp fh fx w n + fh n * fx n else lw fp fh fx w n
theorem lw_yes {fp fh fx : Nat → Int32} {w : Int} {n : Nat} (h : (fp n).toInt = w) : lw fp fh fx w (n + 1) = lw fp fh fx w n + fh n * fx n := if_pos h
theorem lw_no {fp fh fx : Nat → Int32} {w : Int} {n : Nat} (h : ¬ (fp n).toInt = w) : lw fp fh fx w (n + 1) = lw fp fh fx w n := if_neg h
theorem lw_congr {fp fh fx gp gh gx : Nat → Int32} {w : Int} : ∀ {n : Nat}, (∀ j, j < n → fp j = gp j ∧ fh j = gh j ∧ fx j = gx j) → lw fp fh fx w n = lw gp gh gx w n
  | 0, _ => rfl
  | n + 1, h => by
    have ih : lw fp fh fx w n = lw gp gh gx w n := lw_congr (fun j hj => h j (Nat.lt_succ_of_lt hj))
    obtain ⟨a, b, c⟩ := h n (Nat.lt_succ_self n)
    by_cases d : (fp n).toInt = w
    · rw [lw_yes d, lw_yes (a ▸ d), ih, b, c]
    · rw [lw_no d, lw_no (a ▸ d), ih]
def axs (a : Int) (f g : Nat → Int32) : Nat → Int32 := if a = 0 then f else g
def lwp (h : Int) (fp fh fx : Nat → Int32) (w : Int) (ph po : Int32) : Int32 := if (0 ≤ ph.toInt ∧ ph.toInt < h) ∧ (fp ph.toNatClampNeg).toInt = w then lw fp fh fx w h.toNat + po * fx ph.toNatClampNeg else lw fp fh fx w h.toNat
def its (fo : Nat → Int32) (u m : Int32) (j : Nat) : Int32 := fo j + (if (j : Int) = u.toInt then m else 0)
theorem its_yes {fo : Nat → Int32} {u m : Int32} {j : Nat} (h : (j : Int) = u.toInt) : its fo u m j = fo j + m := by
  unfold its
  rw [if_pos h]
theorem its_no {fo : Nat → Int32} {u m : Int32} {j : Nat} (h : ¬ (j : Int) = u.toInt) : its fo u m j = fo j + 0 := by
  unfold its
  rw [if_neg h]
def ldq (fp ft fx fy : Nat → Int32) (n k : Nat) : Int32 := if k = 0 then lw fp ft fx 0 n else if k = 1 then lw fp ft fy 0 n else if k = 2 then lw fp ft fx 1 n else lw fp ft fy 1 n
theorem ldq_zero {fp ft fx fy : Nat → Int32} {k : Nat} : ldq fp ft fx fy 0 k = 0 := by
  unfold ldq
  by_cases a : k = 0
  · rw [if_pos a]
    rfl
  · rw [if_neg a]
    by_cases b : k = 1
    · rw [if_pos b]
      rfl
    · rw [if_neg b]
      by_cases c : k = 2
      · rw [if_pos c]
        rfl
      · rw [if_neg c]
        rfl
theorem ldq_step {fp ft fx fy g : Nat → Int32} {n : Nat} {p t x y : Int32} (hp : fp n = p) (ht : t = ft n) (hx : x = fx n) (hy : y = fy n) (h0 : 0 ≤ p.toInt ∧ p.toInt ≤ 1) (hg : ∀ k, k < 4 → g k = ldq fp ft fx fy n k) : ∀ k, k < 4 → upd (upd g (2 * p).toNatClampNeg (g (2 * p).toNatClampNeg + t * x)) (2 * p + 1).toNatClampNeg (upd g (2 * p).toNatClampNeg (g (2 * p).toNatClampNeg + t * x) (2 * p + 1).toNatClampNeg + t * y) k = ldq fp ft fx fy (n + 1) k := by
  have z0 : (0 : Int32).toInt = 0 := by decide
  have z1 : (1 : Int32).toInt = 1 := by decide
  have h01 := hg 0 (by decide)
  have h11 := hg 1 (by decide)
  have h21 := hg 2 (by decide)
  have h31 := hg 3 (by decide)
  subst ht
  subst hx
  subst hy
  have hc : p = 0 ∨ p = 1 := by
    rcases (by omega : p.toInt = 0 ∨ p.toInt = 1) with h | h
    · exact Or.inl (Int32.toInt_inj.mp (h.trans z0.symm))
    · exact Or.inr (Int32.toInt_inj.mp (h.trans z1.symm))
  rcases hc with e | e
  · subst e
    have q0 : (fp n).toInt = 0 := by rw [hp]; exact z0
    have q1 : ¬ (fp n).toInt = 1 := by omega
    have a0 : ((2 : Int32) * 0).toNatClampNeg = 0 := by decide
    have a1 : ((2 : Int32) * 0 + 1).toNatClampNeg = 1 := by decide
    rw [a0, a1]
    intro k hk
    rcases (by omega : k = 0 ∨ k = 1 ∨ k = 2 ∨ k = 3) with e | e | e | e
    · subst e
      rw [upd_off (by decide), upd_at, h01]
      exact (lw_yes q0).symm
    · subst e
      rw [upd_at, upd_off (by decide), h11]
      exact (lw_yes q0).symm
    · subst e
      rw [upd_off (by decide), upd_off (by decide), h21]
      exact (lw_no q1).symm
    · subst e
      rw [upd_off (by decide), upd_off (by decide), h31]
      exact (lw_no q1).symm
  · subst e
    have q1 : (fp n).toInt = 1 := by rw [hp]; exact z1
    have q0 : ¬ (fp n).toInt = 0 := by omega
    have a0 : ((2 : Int32) * 1).toNatClampNeg = 2 := by decide
    have a1 : ((2 : Int32) * 1 + 1).toNatClampNeg = 3 := by decide
    rw [a0, a1]
    intro k hk
    rcases (by omega : k = 0 ∨ k = 1 ∨ k = 2 ∨ k = 3) with e | e | e | e
    · subst e
      rw [upd_off (by decide), upd_off (by decide), h01]
      exact (lw_no q0).symm
    · subst e
      rw [upd_off (by decide), upd_off (by decide), h11]
      exact (lw_no q0).symm
    · subst e
      rw [upd_off (by decide), upd_at, h21]
      exact (lw_yes q1).symm
    · subst e
      rw [upd_at, upd_off (by decide), h31]
      exact (lw_yes q1).symm
theorem lw_its {fp fo fx : Nat → Int32} {w : Int} {u m : Int32} : ∀ {n : Nat}, lw fp (its fo u m) fx w n = if (0 ≤ u.toInt ∧ u.toInt < (n : Int)) ∧ (fp u.toNatClampNeg).toInt = w then lw fp fo fx w n + m * fx u.toNatClampNeg else lw fp fo fx w n
  | 0 => by
    rw [if_neg (by omega)]
    rfl
  | n + 1 => by
    have ih := lw_its (fp := fp) (fo := fo) (fx := fx) (w := w) (u := u) (m := m) (n := n)
    by_cases c : (n : Int) = u.toInt
    · have en : u.toNatClampNeg = n := by
        show u.toInt.toNat = n
        omega
      rw [en, if_neg (by omega)] at ih
      rw [en]
      by_cases d : (fp n).toInt = w
      · rw [if_pos ⟨by omega, d⟩, lw_yes d, lw_yes d, its_yes c, ih]
        grind
      · rw [if_neg (fun q => d q.2), lw_no d, lw_no d, ih]
    · have ei : its fo u m n = fo n := by
        rw [its_no c]
        grind
      by_cases q : (0 ≤ u.toInt ∧ u.toInt < (n : Int)) ∧ (fp u.toNatClampNeg).toInt = w
      · rw [if_pos q] at ih
        rw [if_pos ⟨by omega, q.2⟩]
        by_cases d : (fp n).toInt = w
        · rw [lw_yes d, lw_yes d, ei, ih]
          grind
        · rw [lw_no d, lw_no d, ih]
      · rw [if_neg q] at ih
        rw [if_neg (fun z => q ⟨by omega, z.2⟩)]
        by_cases d : (fp n).toInt = w
        · rw [lw_yes d, lw_yes d, ei, ih]
        · rw [lw_no d, lw_no d, ih]
/-- what the reference's leads lays is what the class sums -/
theorem lwp_its {h : Int} {fp fo fx : Nat → Int32} {w : Int} {u m : Int32} (h0 : 0 ≤ h) : lw fp (its fo u m) fx w h.toNat = lwp h fp fo fx w u m := by
  unfold lwp
  rw [lw_its, show ((h.toNat : Nat) : Int) = h by omega]
theorem lwp_none {h : Int} {fp fo fx : Nat → Int32} {w : Int} {u m : Int32} (hu : u.toInt < 0) : lwp h fp fo fx w u m = lw fp fo fx w h.toNat := by
  unfold lwp
  exact if_neg (by omega)
theorem de_X5_isHole_1 : decode cX5_isHole 1 = .ok (.ifCond .lt 15, 3) := by decide +kernel
theorem de_X5_isHole_17 : decode cX5_isHole 17 = .ok (.ireturn, 1) := by decide +kernel
theorem de_X5_isHole_6 : decode cX5_isHole 6 = .ok (.getfield 34, 3) := by decide +kernel
theorem de_X5_isHole_9 : decode cX5_isHole 9 = .ok (.if_icmp .ge 7, 3) := by decide +kernel
theorem de_X5_isHole_13 : decode cX5_isHole 13 = .ok (.goto 4, 3) := by decide +kernel
abbrev be_X5_isHole_0_1 : ZB := [(.iload_n 1, .null)]
theorem ke_X5_isHole_0_1 : zchk cX5_isHole be_X5_isHole_0_1 0 = true ∧ zpc be_X5_isHole_0_1 0 = 1 := ⟨by decide +kernel, rfl⟩
abbrev be_X5_isHole_16_17 : ZB := [(.iconst 0, .int 0)]
theorem ke_X5_isHole_16_17 : zchk cX5_isHole be_X5_isHole_16_17 16 = true ∧ zpc be_X5_isHole_16_17 16 = 17 := ⟨by decide +kernel, rfl⟩
abbrev be_X5_isHole_4_6 : ZB := [(.iload_n 1, .null), (.aload_n 0, .null)]
theorem ke_X5_isHole_4_6 : zchk cX5_isHole be_X5_isHole_4_6 4 = true ∧ zpc be_X5_isHole_4_6 4 = 6 := ⟨by decide +kernel, rfl⟩
abbrev be_X5_isHole_12_13 : ZB := [(.iconst 1, .int 1)]
theorem ke_X5_isHole_12_13 : zchk cX5_isHole be_X5_isHole_12_13 12 = true ∧ zpc be_X5_isHole_12_13 12 = 13 := ⟨by decide +kernel, rfl⟩
set_option maxHeartbeats 4000000 in
set_option maxRecDepth 100000 in
theorem ce_X5_isHoleL (l : Launch) (G : KG) (ring : Nat) (hc : Int32) (g_rp : Value) (g_rx : Value) (g_ry : Value) (g_rr : Value) (g_rh : Value) (g_rd : Value) (g_ph : Value) (g_po : Value) (a : Int32) (hci : Int) (ai : Int) (hhc : hc.toInt = hci) (ha : a.toInt = ai) : Ct l G yX5_isHole cX5_isHole 2 (some .boolean) { frames := 0, cells := 0, slots := 0, locals := 0 } [.ref ring, .int a] [(ring, ob 5 [.int hc, g_rp, g_rx, g_ry, g_rr, g_rh, g_rd, g_ph, g_po])] (fun r w1 => r = some (.int (zb (decide (0 ≤ ai ∧ ai < hci)))) ∧ w1 = [(ring, ob 5 [.int hc, g_rp, g_rx, g_ry, g_rr, g_rh, g_rd, g_ph, g_po])]) := by
  refine ct_of [(0, .ref ring), (1, .int a)] (by decide) (Nat.le_of_ble_eq_true rfl) rfl ?_
  intro p0 e0 s0 m0 args0 below0 meth0 c0 A X
  refine z_run X be_X5_isHole_0_1 ke_X5_isHole_0_1 (lv' := [(0, .ref ring), (1, .int a)]) (st' := [.int a]) rfl ?_
  refine zi_lt X de_X5_isHole_1 (tgt := 16) (by decide) (a := ai) ha (fun c1_1 => ?_) (fun c1_1 => ?_)
  ·
    refine z_run X be_X5_isHole_16_17 ke_X5_isHole_16_17 (lv' := [(0, .ref ring), (1, .int a)]) (st' := [.int 0]) rfl ?_
    exact z_zret X rfl rfl de_X5_isHole_17 (Nat.le_of_ble_eq_true rfl) (Nat.le_of_ble_eq_true rfl) ⟨(congrArg (fun z => some (Value.int z)) (zb_f (by omega)).symm), rfl⟩
  ·
    refine z_run X be_X5_isHole_4_6 ke_X5_isHole_4_6 (lv' := [(0, .ref ring), (1, .int a)]) (st' := [.ref ring, .int a]) rfl ?_
    refine z_get X fl_5_34 de_X5_isHole_6 0 rfl (v := .int hc) rfl ?_
    refine zc_ge X de_X5_isHole_9 (tgt := 16) (by decide) (a := ai) (b := hci) ha hhc (fun c9_2 => ?_) (fun c9_2 => ?_)
    ·
      refine z_run X be_X5_isHole_16_17 ke_X5_isHole_16_17 (lv' := [(0, .ref ring), (1, .int a)]) (st' := [.int 0]) rfl ?_
      exact z_zret X rfl rfl de_X5_isHole_17 (Nat.le_of_ble_eq_true rfl) (Nat.le_of_ble_eq_true rfl) ⟨(congrArg (fun z => some (Value.int z)) (zb_f (by omega)).symm), rfl⟩
    ·
      refine z_run X be_X5_isHole_12_13 ke_X5_isHole_12_13 (lv' := [(0, .ref ring), (1, .int a)]) (st' := [.int 1]) rfl ?_
      refine z_goto X de_X5_isHole_13 (tgt := 17) (by decide) ?_
      exact z_zret X rfl rfl de_X5_isHole_17 (Nat.le_of_ble_eq_true rfl) (Nat.le_of_ble_eq_true rfl) ⟨(congrArg (fun z => some (Value.int z)) (zb_t (by omega)).symm), rfl⟩

theorem de_X5_leadOfHoles_1 : decode cX5_leadOfHoles 1 = .ok (.ifCond .ne 10, 3) := by decide +kernel
theorem de_X5_leadOfHoles_12 : decode cX5_leadOfHoles 12 = .ok (.getfield 18, 3) := by decide +kernel
theorem de_X5_leadOfHoles_25 : decode cX5_leadOfHoles 25 = .ok (.getfield 34, 3) := by decide +kernel
theorem de_X5_leadOfHoles_28 : decode cX5_leadOfHoles 28 = .ok (.if_icmp .ge 37, 3) := by decide +kernel
theorem de_X5_leadOfHoles_67 : decode cX5_leadOfHoles 67 = .ok (.ireturn, 1) := by decide +kernel
theorem de_X5_leadOfHoles_32 : decode cX5_leadOfHoles 32 = .ok (.getfield 9, 3) := by decide +kernel
theorem de_X5_leadOfHoles_37 : decode cX5_leadOfHoles 37 = .ok (.iaload, 1) := by decide +kernel
theorem de_X5_leadOfHoles_39 : decode cX5_leadOfHoles 39 = .ok (.if_icmp .ne 20, 3) := by decide +kernel
theorem de_X5_leadOfHoles_62 : decode cX5_leadOfHoles 62 = .ok (.goto (-40), 3) := by decide +kernel
theorem de_X5_leadOfHoles_45 : decode cX5_leadOfHoles 45 = .ok (.getfield 24, 3) := by decide +kernel
theorem de_X5_leadOfHoles_50 : decode cX5_leadOfHoles 50 = .ok (.iaload, 1) := by decide +kernel
theorem de_X5_leadOfHoles_54 : decode cX5_leadOfHoles 54 = .ok (.iaload, 1) := by decide +kernel
theorem de_X5_leadOfHoles_5 : decode cX5_leadOfHoles 5 = .ok (.getfield 15, 3) := by decide +kernel
theorem de_X5_leadOfHoles_8 : decode cX5_leadOfHoles 8 = .ok (.goto 7, 3) := by decide +kernel
abbrev be_X5_leadOfHoles_0_1 : ZB := [(.iload_n 2, .null)]
theorem ke_X5_leadOfHoles_0_1 : zchk cX5_leadOfHoles be_X5_leadOfHoles_0_1 0 = true ∧ zpc be_X5_leadOfHoles_0_1 0 = 1 := ⟨by decide +kernel, rfl⟩
abbrev be_X5_leadOfHoles_11_12 : ZB := [(.aload_n 0, .null)]
theorem ke_X5_leadOfHoles_11_12 : zchk cX5_leadOfHoles be_X5_leadOfHoles_11_12 11 = true ∧ zpc be_X5_leadOfHoles_11_12 11 = 12 := ⟨by decide +kernel, rfl⟩
abbrev be_X5_leadOfHoles_15_22 : ZB := [(.astore_n 3, .null), (.iconst 0, .int 0), (.istore 4, .null), (.iconst 0, .int 0), (.istore 5, .null)]
theorem ke_X5_leadOfHoles_15_22 : zchk cX5_leadOfHoles be_X5_leadOfHoles_15_22 15 = true ∧ zpc be_X5_leadOfHoles_15_22 15 = 22 := ⟨by decide +kernel, rfl⟩
abbrev be_X5_leadOfHoles_22_25 : ZB := [(.iload 5, .null), (.aload_n 0, .null)]
theorem ke_X5_leadOfHoles_22_25 : zchk cX5_leadOfHoles be_X5_leadOfHoles_22_25 22 = true ∧ zpc be_X5_leadOfHoles_22_25 22 = 25 := ⟨by decide +kernel, rfl⟩
abbrev be_X5_leadOfHoles_65_67 : ZB := [(.iload 4, .null)]
theorem ke_X5_leadOfHoles_65_67 : zchk cX5_leadOfHoles be_X5_leadOfHoles_65_67 65 = true ∧ zpc be_X5_leadOfHoles_65_67 65 = 67 := ⟨by decide +kernel, rfl⟩
abbrev be_X5_leadOfHoles_31_32 : ZB := [(.aload_n 0, .null)]
theorem ke_X5_leadOfHoles_31_32 : zchk cX5_leadOfHoles be_X5_leadOfHoles_31_32 31 = true ∧ zpc be_X5_leadOfHoles_31_32 31 = 32 := ⟨by decide +kernel, rfl⟩
abbrev be_X5_leadOfHoles_35_37 : ZB := [(.iload 5, .null)]
theorem ke_X5_leadOfHoles_35_37 : zchk cX5_leadOfHoles be_X5_leadOfHoles_35_37 35 = true ∧ zpc be_X5_leadOfHoles_35_37 35 = 37 := ⟨by decide +kernel, rfl⟩
abbrev be_X5_leadOfHoles_38_39 : ZB := [(.iload_n 1, .null)]
theorem ke_X5_leadOfHoles_38_39 : zchk cX5_leadOfHoles be_X5_leadOfHoles_38_39 38 = true ∧ zpc be_X5_leadOfHoles_38_39 38 = 39 := ⟨by decide +kernel, rfl⟩
abbrev be_X5_leadOfHoles_59_62 : ZB := [(.iinc 5 1, .int 1)]
theorem ke_X5_leadOfHoles_59_62 : zchk cX5_leadOfHoles be_X5_leadOfHoles_59_62 59 = true ∧ zpc be_X5_leadOfHoles_59_62 59 = 62 := ⟨by decide +kernel, rfl⟩
abbrev be_X5_leadOfHoles_42_45 : ZB := [(.iload 4, .null), (.aload_n 0, .null)]
theorem ke_X5_leadOfHoles_42_45 : zchk cX5_leadOfHoles be_X5_leadOfHoles_42_45 42 = true ∧ zpc be_X5_leadOfHoles_42_45 42 = 45 := ⟨by decide +kernel, rfl⟩
abbrev be_X5_leadOfHoles_48_50 : ZB := [(.iload 5, .null)]
theorem ke_X5_leadOfHoles_48_50 : zchk cX5_leadOfHoles be_X5_leadOfHoles_48_50 48 = true ∧ zpc be_X5_leadOfHoles_48_50 48 = 50 := ⟨by decide +kernel, rfl⟩
abbrev be_X5_leadOfHoles_51_54 : ZB := [(.aload_n 3, .null), (.iload 5, .null)]
theorem ke_X5_leadOfHoles_51_54 : zchk cX5_leadOfHoles be_X5_leadOfHoles_51_54 51 = true ∧ zpc be_X5_leadOfHoles_51_54 51 = 54 := ⟨by decide +kernel, rfl⟩
abbrev be_X5_leadOfHoles_55_62 : ZB := [(.imul, .null), (.iadd, .null), (.istore 4, .null), (.iinc 5 1, .int 1)]
theorem ke_X5_leadOfHoles_55_62 : zchk cX5_leadOfHoles be_X5_leadOfHoles_55_62 55 = true ∧ zpc be_X5_leadOfHoles_55_62 55 = 62 := ⟨by decide +kernel, rfl⟩
abbrev be_X5_leadOfHoles_4_5 : ZB := [(.aload_n 0, .null)]
theorem ke_X5_leadOfHoles_4_5 : zchk cX5_leadOfHoles be_X5_leadOfHoles_4_5 4 = true ∧ zpc be_X5_leadOfHoles_4_5 4 = 5 := ⟨by decide +kernel, rfl⟩
set_option maxHeartbeats 4000000 in
set_option maxRecDepth 100000 in
theorem ce_X5_leadOfHoles (l : Launch) (G : KG) (ring : Nat) (hc : Int32) (rp : Nat) (rx : Nat) (ry : Nat) (g_rr : Value) (rh : Nat) (g_rd : Value) (g_ph : Value) (g_po : Value) (fp : Nat → Int32) (fx : Nat → Int32) (fy : Nat → Int32) (fh : Nat → Int32) (wq : Int32) (aq : Int32) (hci : Int) (wi : Int) (ai : Int) (hhc : hc.toInt = hci) (hwq : wq.toInt = wi) (haq : aq.toInt = ai) (hc0 : 0 ≤ hci ∧ hci ≤ 16) : Ct l G yX5_leadOfHoles cX5_leadOfHoles 6 (some .int) { frames := 0, cells := 0, slots := 0, locals := 0 } [.ref ring, .int wq, .int aq] [(ring, ob 5 [.int hc, .ref rp, .ref rx, .ref ry, g_rr, .ref rh, g_rd, g_ph, g_po]), (rp, aI G 16 fp), (rx, aI G 16 fx), (ry, aI G 16 fy), (rh, aI G 16 fh)] (fun r w1 => ∃ (rz : Int32), (rz = lw fp fh (axs ai fx fy) wi hci.toNat) ∧ r = some (.int rz) ∧ w1 = [(ring, ob 5 [.int hc, .ref rp, .ref rx, .ref ry, g_rr, .ref rh, g_rd, g_ph, g_po]), (rp, aI G 16 fp), (rx, aI G 16 fx), (ry, aI G 16 fy), (rh, aI G 16 fh)]) := by
  refine ct_of [(0, .ref ring), (1, .int wq), (2, .int aq)] (by decide) (Nat.le_of_ble_eq_true rfl) rfl ?_
  intro p0 e0 s0 m0 args0 below0 meth0 c0 A X
  refine z_run X be_X5_leadOfHoles_0_1 ke_X5_leadOfHoles_0_1 (lv' := [(0, .ref ring), (1, .int wq), (2, .int aq)]) (st' := [.int aq]) rfl ?_
  refine zi_ne X de_X5_leadOfHoles_1 (tgt := 11) (by decide) (a := ai) haq (fun c1_1 => ?_) (fun c1_1 => ?_)
  ·
    refine z_run X be_X5_leadOfHoles_11_12 ke_X5_leadOfHoles_11_12 (lv' := [(0, .ref ring), (1, .int wq), (2, .int aq)]) (st' := [.ref ring]) rfl ?_
    refine z_get X fl_5_18 de_X5_leadOfHoles_12 0 rfl (v := .ref ry) rfl ?_
    refine z_run X be_X5_leadOfHoles_15_22 ke_X5_leadOfHoles_15_22 (lv' := [(5, .int 0), (4, .int 0), (3, .ref ry), (0, .ref ring), (1, .int wq), (2, .int aq)]) (st' := []) rfl ?_
    refine zloop (σ := Int32 × Int32) (fun z => [(5, .int z.1), (4, .int z.2), (3, .ref ry), (0, .ref ring), (1, .int wq), (2, .int aq)]) (fun z => []) (fun z => [(ring, ob 5 [.int hc, .ref rp, .ref rx, .ref ry, g_rr, .ref rh, g_rd, g_ph, g_po]), (rp, aI G 16 fp), (rx, aI G 16 fx), (ry, aI G 16 fy), (rh, aI G 16 fh)]) (fun z => (0 ≤ z.1.toInt ∧ z.1.toInt ≤ hci) ∧ (z.2 = lw fp fh fy wi z.1.toInt.toNat)) (fun z => (hci - z.1.toInt).toNat) (0, 0) ?_ ?_
    ·
      rintro ⟨i_, s_⟩ ⟨hi, hs⟩ ih22
      dsimp only at *
      refine z_run X be_X5_leadOfHoles_22_25 ke_X5_leadOfHoles_22_25 (lv' := [(5, .int i_), (4, .int s_), (3, .ref ry), (0, .ref ring), (1, .int wq), (2, .int aq)]) (st' := [.ref ring, .int i_]) rfl ?_
      refine z_get X fl_5_34 de_X5_leadOfHoles_25 0 rfl (v := .int hc) rfl ?_
      refine zc_ge X de_X5_leadOfHoles_28 (tgt := 65) (by decide) (a := i_.toInt) (b := hci) rfl hhc (fun c28_2 => ?_) (fun c28_2 => ?_)
      ·
        refine z_run X be_X5_leadOfHoles_65_67 ke_X5_leadOfHoles_65_67 (lv' := [(5, .int i_), (4, .int s_), (3, .ref ry), (0, .ref ring), (1, .int wq), (2, .int aq)]) (st' := [.int s_]) rfl ?_
        exact z_iret X rfl de_X5_leadOfHoles_67 (Nat.le_of_ble_eq_true rfl) (Nat.le_of_ble_eq_true rfl) ⟨s_, (by unfold axs; rw [if_neg (by omega), hs, show i_.toInt.toNat = hci.toNat by omega]), rfl, rfl⟩
      ·
        refine z_run X be_X5_leadOfHoles_31_32 ke_X5_leadOfHoles_31_32 (lv' := [(5, .int i_), (4, .int s_), (3, .ref ry), (0, .ref ring), (1, .int wq), (2, .int aq)]) (st' := [.ref ring]) rfl ?_
        refine z_get X fl_5_9 de_X5_leadOfHoles_32 0 rfl (v := .ref rp) rfl ?_
        refine z_run X be_X5_leadOfHoles_35_37 ke_X5_leadOfHoles_35_37 (lv' := [(5, .int i_), (4, .int s_), (3, .ref ry), (0, .ref ring), (1, .int wq), (2, .int aq)]) (st' := [.int i_, .ref rp]) rfl ?_
        refine z_iald X de_X5_leadOfHoles_37 1 rfl (vin rfl (by omega) (by omega)) (v := (fp i_.toNatClampNeg)) rfl ?_
        refine z_run X be_X5_leadOfHoles_38_39 ke_X5_leadOfHoles_38_39 (lv' := [(5, .int i_), (4, .int s_), (3, .ref ry), (0, .ref ring), (1, .int wq), (2, .int aq)]) (st' := [.int wq, .int (fp i_.toNatClampNeg)]) rfl ?_
        refine zc_ne X de_X5_leadOfHoles_39 (tgt := 59) (by decide) (a := (fp i_.toNatClampNeg).toInt) (b := wi) rfl hwq (fun c39_3 => ?_) (fun c39_3 => ?_)
        ·
          refine z_run X be_X5_leadOfHoles_59_62 ke_X5_leadOfHoles_59_62 (lv' := [(5, .int (i_ + 1)), (4, .int s_), (3, .ref ry), (0, .ref ring), (1, .int wq), (2, .int aq)]) (st' := []) rfl ?_
          refine z_goto X de_X5_leadOfHoles_62 (tgt := 22) (by decide) ?_
          exact ih22 ((i_ + 1), s_) ⟨(by dsimp only; have e : (i_ + 1).toInt = i_.toInt + 1 := tI_add rfl (show (1 : Int32).toInt = 1 from by decide) (by omega); omega), (by dsimp only; have e : (i_ + 1).toInt = i_.toInt + 1 := tI_add rfl (show (1 : Int32).toInt = 1 from by decide) (by omega); rw [e, show (i_.toInt + 1).toNat = i_.toInt.toNat + 1 by omega]; rw [lw_no (show ¬ (fp i_.toInt.toNat).toInt = wi from (show ¬ (fp i_.toNatClampNeg).toInt = wi by omega)), hs])⟩ (by dsimp only; have e : (i_ + 1).toInt = i_.toInt + 1 := tI_add rfl (show (1 : Int32).toInt = 1 from by decide) (by omega); omega)
        ·
          refine z_run X be_X5_leadOfHoles_42_45 ke_X5_leadOfHoles_42_45 (lv' := [(5, .int i_), (4, .int s_), (3, .ref ry), (0, .ref ring), (1, .int wq), (2, .int aq)]) (st' := [.ref ring, .int s_]) rfl ?_
          refine z_get X fl_5_24 de_X5_leadOfHoles_45 0 rfl (v := .ref rh) rfl ?_
          refine z_run X be_X5_leadOfHoles_48_50 ke_X5_leadOfHoles_48_50 (lv' := [(5, .int i_), (4, .int s_), (3, .ref ry), (0, .ref ring), (1, .int wq), (2, .int aq)]) (st' := [.int i_, .ref rh, .int s_]) rfl ?_
          refine z_iald X de_X5_leadOfHoles_50 4 rfl (vin rfl (by omega) (by omega)) (v := (fh i_.toNatClampNeg)) rfl ?_
          refine z_run X be_X5_leadOfHoles_51_54 ke_X5_leadOfHoles_51_54 (lv' := [(5, .int i_), (4, .int s_), (3, .ref ry), (0, .ref ring), (1, .int wq), (2, .int aq)]) (st' := [.int i_, .ref ry, .int (fh i_.toNatClampNeg), .int s_]) rfl ?_
          refine z_iald X de_X5_leadOfHoles_54 3 rfl (vin rfl (by omega) (by omega)) (v := (fy i_.toNatClampNeg)) rfl ?_
          refine z_run X be_X5_leadOfHoles_55_62 ke_X5_leadOfHoles_55_62 (lv' := [(5, .int (i_ + 1)), (4, .int (s_ + ((fh i_.toNatClampNeg) * (fy i_.toNatClampNeg)))), (3, .ref ry), (0, .ref ring), (1, .int wq), (2, .int aq)]) (st' := []) rfl ?_
          refine z_goto X de_X5_leadOfHoles_62 (tgt := 22) (by decide) ?_
          exact ih22 ((i_ + 1), (s_ + ((fh i_.toNatClampNeg) * (fy i_.toNatClampNeg)))) ⟨(by dsimp only; have e : (i_ + 1).toInt = i_.toInt + 1 := tI_add rfl (show (1 : Int32).toInt = 1 from by decide) (by omega); omega), (by dsimp only; have e : (i_ + 1).toInt = i_.toInt + 1 := tI_add rfl (show (1 : Int32).toInt = 1 from by decide) (by omega); rw [e, show (i_.toInt + 1).toNat = i_.toInt.toNat + 1 by omega]; rw [lw_yes (show (fp i_.toInt.toNat).toInt = wi from (show (fp i_.toNatClampNeg).toInt = wi by omega)), ← hs]; rfl)⟩ (by dsimp only; have e : (i_ + 1).toInt = i_.toInt + 1 := tI_add rfl (show (1 : Int32).toInt = 1 from by decide) (by omega); omega)
    · exact ⟨(by dsimp only; have e0 : (0 : Int32).toInt = 0 := (by decide); omega), (by dsimp only; have e0 : (0 : Int32).toInt = 0 := (by decide); rw [e0]; rfl)⟩
  ·
    refine z_run X be_X5_leadOfHoles_4_5 ke_X5_leadOfHoles_4_5 (lv' := [(0, .ref ring), (1, .int wq), (2, .int aq)]) (st' := [.ref ring]) rfl ?_
    refine z_get X fl_5_15 de_X5_leadOfHoles_5 0 rfl (v := .ref rx) rfl ?_
    refine z_goto X de_X5_leadOfHoles_8 (tgt := 15) (by decide) ?_
    refine z_run X be_X5_leadOfHoles_15_22 ke_X5_leadOfHoles_15_22 (lv' := [(5, .int 0), (4, .int 0), (3, .ref rx), (0, .ref ring), (1, .int wq), (2, .int aq)]) (st' := []) rfl ?_
    refine zloop (σ := Int32 × Int32) (fun z => [(5, .int z.1), (4, .int z.2), (3, .ref rx), (0, .ref ring), (1, .int wq), (2, .int aq)]) (fun z => []) (fun z => [(ring, ob 5 [.int hc, .ref rp, .ref rx, .ref ry, g_rr, .ref rh, g_rd, g_ph, g_po]), (rp, aI G 16 fp), (rx, aI G 16 fx), (ry, aI G 16 fy), (rh, aI G 16 fh)]) (fun z => (0 ≤ z.1.toInt ∧ z.1.toInt ≤ hci) ∧ (z.2 = lw fp fh fx wi z.1.toInt.toNat)) (fun z => (hci - z.1.toInt).toNat) (0, 0) ?_ ?_
    ·
      rintro ⟨i_, s_⟩ ⟨hi, hs⟩ ih22
      dsimp only at *
      refine z_run X be_X5_leadOfHoles_22_25 ke_X5_leadOfHoles_22_25 (lv' := [(5, .int i_), (4, .int s_), (3, .ref rx), (0, .ref ring), (1, .int wq), (2, .int aq)]) (st' := [.ref ring, .int i_]) rfl ?_
      refine z_get X fl_5_34 de_X5_leadOfHoles_25 0 rfl (v := .int hc) rfl ?_
      refine zc_ge X de_X5_leadOfHoles_28 (tgt := 65) (by decide) (a := i_.toInt) (b := hci) rfl hhc (fun c28_4 => ?_) (fun c28_4 => ?_)
      ·
        refine z_run X be_X5_leadOfHoles_65_67 ke_X5_leadOfHoles_65_67 (lv' := [(5, .int i_), (4, .int s_), (3, .ref rx), (0, .ref ring), (1, .int wq), (2, .int aq)]) (st' := [.int s_]) rfl ?_
        exact z_iret X rfl de_X5_leadOfHoles_67 (Nat.le_of_ble_eq_true rfl) (Nat.le_of_ble_eq_true rfl) ⟨s_, (by unfold axs; rw [if_pos (by omega), hs, show i_.toInt.toNat = hci.toNat by omega]), rfl, rfl⟩
      ·
        refine z_run X be_X5_leadOfHoles_31_32 ke_X5_leadOfHoles_31_32 (lv' := [(5, .int i_), (4, .int s_), (3, .ref rx), (0, .ref ring), (1, .int wq), (2, .int aq)]) (st' := [.ref ring]) rfl ?_
        refine z_get X fl_5_9 de_X5_leadOfHoles_32 0 rfl (v := .ref rp) rfl ?_
        refine z_run X be_X5_leadOfHoles_35_37 ke_X5_leadOfHoles_35_37 (lv' := [(5, .int i_), (4, .int s_), (3, .ref rx), (0, .ref ring), (1, .int wq), (2, .int aq)]) (st' := [.int i_, .ref rp]) rfl ?_
        refine z_iald X de_X5_leadOfHoles_37 1 rfl (vin rfl (by omega) (by omega)) (v := (fp i_.toNatClampNeg)) rfl ?_
        refine z_run X be_X5_leadOfHoles_38_39 ke_X5_leadOfHoles_38_39 (lv' := [(5, .int i_), (4, .int s_), (3, .ref rx), (0, .ref ring), (1, .int wq), (2, .int aq)]) (st' := [.int wq, .int (fp i_.toNatClampNeg)]) rfl ?_
        refine zc_ne X de_X5_leadOfHoles_39 (tgt := 59) (by decide) (a := (fp i_.toNatClampNeg).toInt) (b := wi) rfl hwq (fun c39_5 => ?_) (fun c39_5 => ?_)
        ·
          refine z_run X be_X5_leadOfHoles_59_62 ke_X5_leadOfHoles_59_62 (lv' := [(5, .int (i_ + 1)), (4, .int s_), (3, .ref rx), (0, .ref ring), (1, .int wq), (2, .int aq)]) (st' := []) rfl ?_
          refine z_goto X de_X5_leadOfHoles_62 (tgt := 22) (by decide) ?_
          exact ih22 ((i_ + 1), s_) ⟨(by dsimp only; have e : (i_ + 1).toInt = i_.toInt + 1 := tI_add rfl (show (1 : Int32).toInt = 1 from by decide) (by omega); omega), (by dsimp only; have e : (i_ + 1).toInt = i_.toInt + 1 := tI_add rfl (show (1 : Int32).toInt = 1 from by decide) (by omega); rw [e, show (i_.toInt + 1).toNat = i_.toInt.toNat + 1 by omega]; rw [lw_no (show ¬ (fp i_.toInt.toNat).toInt = wi from (show ¬ (fp i_.toNatClampNeg).toInt = wi by omega)), hs])⟩ (by dsimp only; have e : (i_ + 1).toInt = i_.toInt + 1 := tI_add rfl (show (1 : Int32).toInt = 1 from by decide) (by omega); omega)
        ·
          refine z_run X be_X5_leadOfHoles_42_45 ke_X5_leadOfHoles_42_45 (lv' := [(5, .int i_), (4, .int s_), (3, .ref rx), (0, .ref ring), (1, .int wq), (2, .int aq)]) (st' := [.ref ring, .int s_]) rfl ?_
          refine z_get X fl_5_24 de_X5_leadOfHoles_45 0 rfl (v := .ref rh) rfl ?_
          refine z_run X be_X5_leadOfHoles_48_50 ke_X5_leadOfHoles_48_50 (lv' := [(5, .int i_), (4, .int s_), (3, .ref rx), (0, .ref ring), (1, .int wq), (2, .int aq)]) (st' := [.int i_, .ref rh, .int s_]) rfl ?_
          refine z_iald X de_X5_leadOfHoles_50 4 rfl (vin rfl (by omega) (by omega)) (v := (fh i_.toNatClampNeg)) rfl ?_
          refine z_run X be_X5_leadOfHoles_51_54 ke_X5_leadOfHoles_51_54 (lv' := [(5, .int i_), (4, .int s_), (3, .ref rx), (0, .ref ring), (1, .int wq), (2, .int aq)]) (st' := [.int i_, .ref rx, .int (fh i_.toNatClampNeg), .int s_]) rfl ?_
          refine z_iald X de_X5_leadOfHoles_54 2 rfl (vin rfl (by omega) (by omega)) (v := (fx i_.toNatClampNeg)) rfl ?_
          refine z_run X be_X5_leadOfHoles_55_62 ke_X5_leadOfHoles_55_62 (lv' := [(5, .int (i_ + 1)), (4, .int (s_ + ((fh i_.toNatClampNeg) * (fx i_.toNatClampNeg)))), (3, .ref rx), (0, .ref ring), (1, .int wq), (2, .int aq)]) (st' := []) rfl ?_
          refine z_goto X de_X5_leadOfHoles_62 (tgt := 22) (by decide) ?_
          exact ih22 ((i_ + 1), (s_ + ((fh i_.toNatClampNeg) * (fx i_.toNatClampNeg)))) ⟨(by dsimp only; have e : (i_ + 1).toInt = i_.toInt + 1 := tI_add rfl (show (1 : Int32).toInt = 1 from by decide) (by omega); omega), (by dsimp only; have e : (i_ + 1).toInt = i_.toInt + 1 := tI_add rfl (show (1 : Int32).toInt = 1 from by decide) (by omega); rw [e, show (i_.toInt + 1).toNat = i_.toInt.toNat + 1 by omega]; rw [lw_yes (show (fp i_.toInt.toNat).toInt = wi from (show (fp i_.toNatClampNeg).toInt = wi by omega)), ← hs]; rfl)⟩ (by dsimp only; have e : (i_ + 1).toInt = i_.toInt + 1 := tI_add rfl (show (1 : Int32).toInt = 1 from by decide) (by omega); omega)
    · exact ⟨(by dsimp only; have e0 : (0 : Int32).toInt = 0 := (by decide); omega), (by dsimp only; have e0 : (0 : Int32).toInt = 0 := (by decide); rw [e0]; rfl)⟩

theorem de_X5_leadWithPound_3 : decode cX5_leadWithPound 3 = .ok (.invokevirtual 37, 3) := by decide +kernel
theorem de_X5_leadWithPound_9 : decode cX5_leadWithPound 9 = .ok (.getfield 30, 3) := by decide +kernel
theorem de_X5_leadWithPound_12 : decode cX5_leadWithPound 12 = .ok (.invokevirtual 41, 3) := by decide +kernel
theorem de_X5_leadWithPound_15 : decode cX5_leadWithPound 15 = .ok (.ifCond .eq 49, 3) := by decide +kernel
theorem de_X5_leadWithPound_65 : decode cX5_leadWithPound 65 = .ok (.ireturn, 1) := by decide +kernel
theorem de_X5_leadWithPound_19 : decode cX5_leadWithPound 19 = .ok (.getfield 9, 3) := by decide +kernel
theorem de_X5_leadWithPound_23 : decode cX5_leadWithPound 23 = .ok (.getfield 30, 3) := by decide +kernel
theorem de_X5_leadWithPound_26 : decode cX5_leadWithPound 26 = .ok (.iaload, 1) := by decide +kernel
theorem de_X5_leadWithPound_28 : decode cX5_leadWithPound 28 = .ok (.if_icmp .ne 36, 3) := by decide +kernel
theorem de_X5_leadWithPound_33 : decode cX5_leadWithPound 33 = .ok (.getfield 45, 3) := by decide +kernel
theorem de_X5_leadWithPound_37 : decode cX5_leadWithPound 37 = .ok (.ifCond .ne 15, 3) := by decide +kernel
theorem de_X5_leadWithPound_53 : decode cX5_leadWithPound 53 = .ok (.getfield 18, 3) := by decide +kernel
theorem de_X5_leadWithPound_57 : decode cX5_leadWithPound 57 = .ok (.getfield 30, 3) := by decide +kernel
theorem de_X5_leadWithPound_60 : decode cX5_leadWithPound 60 = .ok (.iaload, 1) := by decide +kernel
theorem de_X5_leadWithPound_41 : decode cX5_leadWithPound 41 = .ok (.getfield 15, 3) := by decide +kernel
theorem de_X5_leadWithPound_45 : decode cX5_leadWithPound 45 = .ok (.getfield 30, 3) := by decide +kernel
theorem de_X5_leadWithPound_48 : decode cX5_leadWithPound 48 = .ok (.iaload, 1) := by decide +kernel
theorem de_X5_leadWithPound_49 : decode cX5_leadWithPound 49 = .ok (.goto 12, 3) := by decide +kernel
abbrev be_X5_leadWithPound_0_3 : ZB := [(.aload_n 0, .null), (.iload_n 1, .null), (.iload_n 2, .null)]
theorem ke_X5_leadWithPound_0_3 : zchk cX5_leadWithPound be_X5_leadWithPound_0_3 0 = true ∧ zpc be_X5_leadWithPound_0_3 0 = 3 := ⟨by decide +kernel, rfl⟩
abbrev be_X5_leadWithPound_6_9 : ZB := [(.istore_n 3, .null), (.aload_n 0, .null), (.aload_n 0, .null)]
theorem ke_X5_leadWithPound_6_9 : zchk cX5_leadWithPound be_X5_leadWithPound_6_9 6 = true ∧ zpc be_X5_leadWithPound_6_9 6 = 9 := ⟨by decide +kernel, rfl⟩
abbrev be_X5_leadWithPound_64_65 : ZB := [(.iload_n 3, .null)]
theorem ke_X5_leadWithPound_64_65 : zchk cX5_leadWithPound be_X5_leadWithPound_64_65 64 = true ∧ zpc be_X5_leadWithPound_64_65 64 = 65 := ⟨by decide +kernel, rfl⟩
abbrev be_X5_leadWithPound_18_19 : ZB := [(.aload_n 0, .null)]
theorem ke_X5_leadWithPound_18_19 : zchk cX5_leadWithPound be_X5_leadWithPound_18_19 18 = true ∧ zpc be_X5_leadWithPound_18_19 18 = 19 := ⟨by decide +kernel, rfl⟩
abbrev be_X5_leadWithPound_22_23 : ZB := [(.aload_n 0, .null)]
theorem ke_X5_leadWithPound_22_23 : zchk cX5_leadWithPound be_X5_leadWithPound_22_23 22 = true ∧ zpc be_X5_leadWithPound_22_23 22 = 23 := ⟨by decide +kernel, rfl⟩
abbrev be_X5_leadWithPound_27_28 : ZB := [(.iload_n 1, .null)]
theorem ke_X5_leadWithPound_27_28 : zchk cX5_leadWithPound be_X5_leadWithPound_27_28 27 = true ∧ zpc be_X5_leadWithPound_27_28 27 = 28 := ⟨by decide +kernel, rfl⟩
abbrev be_X5_leadWithPound_31_33 : ZB := [(.iload_n 3, .null), (.aload_n 0, .null)]
theorem ke_X5_leadWithPound_31_33 : zchk cX5_leadWithPound be_X5_leadWithPound_31_33 31 = true ∧ zpc be_X5_leadWithPound_31_33 31 = 33 := ⟨by decide +kernel, rfl⟩
abbrev be_X5_leadWithPound_36_37 : ZB := [(.iload_n 2, .null)]
theorem ke_X5_leadWithPound_36_37 : zchk cX5_leadWithPound be_X5_leadWithPound_36_37 36 = true ∧ zpc be_X5_leadWithPound_36_37 36 = 37 := ⟨by decide +kernel, rfl⟩
abbrev be_X5_leadWithPound_52_53 : ZB := [(.aload_n 0, .null)]
theorem ke_X5_leadWithPound_52_53 : zchk cX5_leadWithPound be_X5_leadWithPound_52_53 52 = true ∧ zpc be_X5_leadWithPound_52_53 52 = 53 := ⟨by decide +kernel, rfl⟩
abbrev be_X5_leadWithPound_56_57 : ZB := [(.aload_n 0, .null)]
theorem ke_X5_leadWithPound_56_57 : zchk cX5_leadWithPound be_X5_leadWithPound_56_57 56 = true ∧ zpc be_X5_leadWithPound_56_57 56 = 57 := ⟨by decide +kernel, rfl⟩
abbrev be_X5_leadWithPound_61_65 : ZB := [(.imul, .null), (.iadd, .null), (.istore_n 3, .null), (.iload_n 3, .null)]
theorem ke_X5_leadWithPound_61_65 : zchk cX5_leadWithPound be_X5_leadWithPound_61_65 61 = true ∧ zpc be_X5_leadWithPound_61_65 61 = 65 := ⟨by decide +kernel, rfl⟩
abbrev be_X5_leadWithPound_40_41 : ZB := [(.aload_n 0, .null)]
theorem ke_X5_leadWithPound_40_41 : zchk cX5_leadWithPound be_X5_leadWithPound_40_41 40 = true ∧ zpc be_X5_leadWithPound_40_41 40 = 41 := ⟨by decide +kernel, rfl⟩
abbrev be_X5_leadWithPound_44_45 : ZB := [(.aload_n 0, .null)]
theorem ke_X5_leadWithPound_44_45 : zchk cX5_leadWithPound be_X5_leadWithPound_44_45 44 = true ∧ zpc be_X5_leadWithPound_44_45 44 = 45 := ⟨by decide +kernel, rfl⟩
set_option maxHeartbeats 4000000 in
set_option maxRecDepth 100000 in
theorem ce_X5_leadWithPound (l : Launch) (G : KG) (ring : Nat) (hc : Int32) (rp : Nat) (rx : Nat) (ry : Nat) (g_rr : Value) (rh : Nat) (g_rd : Value) (ph : Int32) (po : Int32) (fp : Nat → Int32) (fx : Nat → Int32) (fy : Nat → Int32) (fh : Nat → Int32) (wq : Int32) (aq : Int32) (hci : Int) (wi : Int) (ai : Int) (phi : Int) (hhc : hc.toInt = hci) (hwq : wq.toInt = wi) (haq : aq.toInt = ai) (hph : ph.toInt = phi) (hc0 : 0 ≤ hci ∧ hci ≤ 16) : Ct l G yX5_leadWithPound cX5_leadWithPound 4 (some .int) { frames := 1, cells := 0, slots := 0, locals := 25 } [.ref ring, .int wq, .int aq] [(ring, ob 5 [.int hc, .ref rp, .ref rx, .ref ry, g_rr, .ref rh, g_rd, .int ph, .int po]), (rp, aI G 16 fp), (rx, aI G 16 fx), (ry, aI G 16 fy), (rh, aI G 16 fh)] (fun r w1 => ∃ (rz : Int32), (rz = lwp hci fp fh (axs ai fx fy) wi ph po) ∧ r = some (.int rz) ∧ w1 = [(ring, ob 5 [.int hc, .ref rp, .ref rx, .ref ry, g_rr, .ref rh, g_rd, .int ph, .int po]), (rp, aI G 16 fp), (rx, aI G 16 fx), (ry, aI G 16 fy), (rh, aI G 16 fh)]) := by
  refine ct_of [(0, .ref ring), (1, .int wq), (2, .int aq)] (by decide) (Nat.le_of_ble_eq_true rfl) rfl ?_
  intro p0 e0 s0 m0 args0 below0 meth0 c0 A X
  refine z_run X be_X5_leadWithPound_0_3 ke_X5_leadWithPound_0_3 (lv' := [(0, .ref ring), (1, .int wq), (2, .int aq)]) (st' := [.int aq, .int wq, .ref ring]) rfl ?_
  refine z_callV X k_5_37 (ce_X5_leadOfHoles l G ring hc rp rx ry g_rr rh g_rd (.int ph) (.int po) fp fx fy fh wq aq hci wi ai hhc hwq haq (by omega)) de_X5_leadWithPound_3 0 rfl rfl rfl ⟨Nat.le_of_ble_eq_true rfl, Nat.le_of_ble_eq_true rfl⟩ ⟨Nat.le_of_ble_eq_true rfl, Nat.le_of_ble_eq_true rfl⟩ rfl (rest := []) (As := [.int wq, .int aq]) rfl (Nat.le_of_ble_eq_true rfl) [0, 1, 2, 3, 4] [] rfl (by decide) (wr := []) rfl (by decide) (by decide) ?_
  rintro _ _ ⟨rz_1, f3_2, rfl, rfl⟩
  refine Z.at (pc' := 6) (st' := [.int rz_1]) (ws' := [(ring, ob 5 [.int hc, .ref rp, .ref rx, .ref ry, g_rr, .ref rh, g_rd, .int ph, .int po]), (rp, aI G 16 fp), (rx, aI G 16 fx), (ry, aI G 16 fy), (rh, aI G 16 fh)]) (kc' := 0) (ks' := 0) rfl rfl rfl rfl rfl ?_
  refine z_run X be_X5_leadWithPound_6_9 ke_X5_leadWithPound_6_9 (lv' := [(3, .int rz_1), (0, .ref ring), (1, .int wq), (2, .int aq)]) (st' := [.ref ring, .ref ring]) rfl ?_
  refine z_get X fl_5_30 de_X5_leadWithPound_9 0 rfl (v := .int ph) rfl ?_
  refine z_callV X k_5_41 (ce_X5_isHoleL l G ring hc (.ref rp) (.ref rx) (.ref ry) g_rr (.ref rh) g_rd (.int ph) (.int po) ph hci phi hhc hph) de_X5_leadWithPound_12 0 rfl rfl rfl ⟨Nat.le_of_ble_eq_true rfl, Nat.le_of_ble_eq_true rfl⟩ ⟨Nat.le_of_ble_eq_true rfl, Nat.le_of_ble_eq_true rfl⟩ rfl (rest := []) (As := [.int ph]) rfl (Nat.le_of_ble_eq_true rfl) [0] [1, 2, 3, 4] rfl (by decide) (wr := [(rp, aI G 16 fp), (rx, aI G 16 fx), (ry, aI G 16 fy), (rh, aI G 16 fh)]) rfl (by decide) (by decide) ?_
  rintro _ _ ⟨rfl, rfl⟩
  refine Z.at (pc' := 15) (st' := [.int (zb (decide (0 ≤ phi ∧ phi < hci)))]) (ws' := [(rp, aI G 16 fp), (rx, aI G 16 fx), (ry, aI G 16 fy), (rh, aI G 16 fh), (ring, ob 5 [.int hc, .ref rp, .ref rx, .ref ry, g_rr, .ref rh, g_rd, .int ph, .int po])]) (kc' := 0) (ks' := 0) rfl rfl rfl rfl rfl ?_
  refine zi_eq_zb X de_X5_leadWithPound_15 (tgt := 64) (by decide) (fun c15_3 => ?_) (fun c15_3 => ?_)
  ·
    refine z_run X be_X5_leadWithPound_64_65 ke_X5_leadWithPound_64_65 (lv' := [(3, .int rz_1), (0, .ref ring), (1, .int wq), (2, .int aq)]) (st' := [.int rz_1]) rfl ?_
    refine Z.sub (lv' := []) [] rfl [4, 0, 1, 2, 3] (ws' := [(ring, ob 5 [.int hc, .ref rp, .ref rx, .ref ry, g_rr, .ref rh, g_rd, .int ph, .int po]), (rp, aI G 16 fp), (rx, aI G 16 fx), (ry, aI G 16 fy), (rh, aI G 16 fh)]) rfl (by decide) ?_
    exact z_iret X rfl de_X5_leadWithPound_65 (Nat.le_of_ble_eq_true rfl) (Nat.le_of_ble_eq_true rfl) ⟨rz_1, (by unfold lwp; rw [if_neg (by omega), f3_2]), rfl, rfl⟩
  ·
    refine z_run X be_X5_leadWithPound_18_19 ke_X5_leadWithPound_18_19 (lv' := [(3, .int rz_1), (0, .ref ring), (1, .int wq), (2, .int aq)]) (st' := [.ref ring]) rfl ?_
    refine z_get X fl_5_9 de_X5_leadWithPound_19 4 rfl (v := .ref rp) rfl ?_
    refine z_run X be_X5_leadWithPound_22_23 ke_X5_leadWithPound_22_23 (lv' := [(3, .int rz_1), (0, .ref ring), (1, .int wq), (2, .int aq)]) (st' := [.ref ring, .ref rp]) rfl ?_
    refine z_get X fl_5_30 de_X5_leadWithPound_23 4 rfl (v := .int ph) rfl ?_
    refine z_iald X de_X5_leadWithPound_26 0 rfl (vin hph (by omega) (by omega)) (v := (fp ph.toNatClampNeg)) rfl ?_
    refine z_run X be_X5_leadWithPound_27_28 ke_X5_leadWithPound_27_28 (lv' := [(3, .int rz_1), (0, .ref ring), (1, .int wq), (2, .int aq)]) (st' := [.int wq, .int (fp ph.toNatClampNeg)]) rfl ?_
    refine zc_ne X de_X5_leadWithPound_28 (tgt := 64) (by decide) (a := (fp ph.toNatClampNeg).toInt) (b := wi) rfl hwq (fun c28_4 => ?_) (fun c28_4 => ?_)
    ·
      refine z_run X be_X5_leadWithPound_64_65 ke_X5_leadWithPound_64_65 (lv' := [(3, .int rz_1), (0, .ref ring), (1, .int wq), (2, .int aq)]) (st' := [.int rz_1]) rfl ?_
      refine Z.sub (lv' := []) [] rfl [4, 0, 1, 2, 3] (ws' := [(ring, ob 5 [.int hc, .ref rp, .ref rx, .ref ry, g_rr, .ref rh, g_rd, .int ph, .int po]), (rp, aI G 16 fp), (rx, aI G 16 fx), (ry, aI G 16 fy), (rh, aI G 16 fh)]) rfl (by decide) ?_
      exact z_iret X rfl de_X5_leadWithPound_65 (Nat.le_of_ble_eq_true rfl) (Nat.le_of_ble_eq_true rfl) ⟨rz_1, (by unfold lwp; rw [if_neg (by omega), f3_2]), rfl, rfl⟩
    ·
      refine z_run X be_X5_leadWithPound_31_33 ke_X5_leadWithPound_31_33 (lv' := [(3, .int rz_1), (0, .ref ring), (1, .int wq), (2, .int aq)]) (st' := [.ref ring, .int rz_1]) rfl ?_
      refine z_get X fl_5_45 de_X5_leadWithPound_33 4 rfl (v := .int po) rfl ?_
      refine z_run X be_X5_leadWithPound_36_37 ke_X5_leadWithPound_36_37 (lv' := [(3, .int rz_1), (0, .ref ring), (1, .int wq), (2, .int aq)]) (st' := [.int aq, .int po, .int rz_1]) rfl ?_
      refine zi_ne X de_X5_leadWithPound_37 (tgt := 52) (by decide) (a := ai) haq (fun c37_5 => ?_) (fun c37_5 => ?_)
      ·
        refine z_run X be_X5_leadWithPound_52_53 ke_X5_leadWithPound_52_53 (lv' := [(3, .int rz_1), (0, .ref ring), (1, .int wq), (2, .int aq)]) (st' := [.ref ring, .int po, .int rz_1]) rfl ?_
        refine z_get X fl_5_18 de_X5_leadWithPound_53 4 rfl (v := .ref ry) rfl ?_
        refine z_run X be_X5_leadWithPound_56_57 ke_X5_leadWithPound_56_57 (lv' := [(3, .int rz_1), (0, .ref ring), (1, .int wq), (2, .int aq)]) (st' := [.ref ring, .ref ry, .int po, .int rz_1]) rfl ?_
        refine z_get X fl_5_30 de_X5_leadWithPound_57 4 rfl (v := .int ph) rfl ?_
        refine z_iald X de_X5_leadWithPound_60 2 rfl (vin hph (by omega) (by omega)) (v := (fy ph.toNatClampNeg)) rfl ?_
        refine z_run X be_X5_leadWithPound_61_65 ke_X5_leadWithPound_61_65 (lv' := [(3, .int (rz_1 + (po * (fy ph.toNatClampNeg)))), (0, .ref ring), (1, .int wq), (2, .int aq)]) (st' := [.int (rz_1 + (po * (fy ph.toNatClampNeg)))]) rfl ?_
        refine Z.sub (lv' := []) [] rfl [4, 0, 1, 2, 3] (ws' := [(ring, ob 5 [.int hc, .ref rp, .ref rx, .ref ry, g_rr, .ref rh, g_rd, .int ph, .int po]), (rp, aI G 16 fp), (rx, aI G 16 fx), (ry, aI G 16 fy), (rh, aI G 16 fh)]) rfl (by decide) ?_
        exact z_iret X rfl de_X5_leadWithPound_65 (Nat.le_of_ble_eq_true rfl) (Nat.le_of_ble_eq_true rfl) ⟨(rz_1 + (po * (fy ph.toNatClampNeg))), (by unfold lwp; rw [if_pos ⟨by omega, by omega⟩, f3_2]; unfold axs; rw [if_neg (by omega)]), rfl, rfl⟩
      ·
        refine z_run X be_X5_leadWithPound_40_41 ke_X5_leadWithPound_40_41 (lv' := [(3, .int rz_1), (0, .ref ring), (1, .int wq), (2, .int aq)]) (st' := [.ref ring, .int po, .int rz_1]) rfl ?_
        refine z_get X fl_5_15 de_X5_leadWithPound_41 4 rfl (v := .ref rx) rfl ?_
        refine z_run X be_X5_leadWithPound_44_45 ke_X5_leadWithPound_44_45 (lv' := [(3, .int rz_1), (0, .ref ring), (1, .int wq), (2, .int aq)]) (st' := [.ref ring, .ref rx, .int po, .int rz_1]) rfl ?_
        refine z_get X fl_5_30 de_X5_leadWithPound_45 4 rfl (v := .int ph) rfl ?_
        refine z_iald X de_X5_leadWithPound_48 1 rfl (vin hph (by omega) (by omega)) (v := (fx ph.toNatClampNeg)) rfl ?_
        refine z_goto X de_X5_leadWithPound_49 (tgt := 61) (by decide) ?_
        refine z_run X be_X5_leadWithPound_61_65 ke_X5_leadWithPound_61_65 (lv' := [(3, .int (rz_1 + (po * (fx ph.toNatClampNeg)))), (0, .ref ring), (1, .int wq), (2, .int aq)]) (st' := [.int (rz_1 + (po * (fx ph.toNatClampNeg)))]) rfl ?_
        refine Z.sub (lv' := []) [] rfl [4, 0, 1, 2, 3] (ws' := [(ring, ob 5 [.int hc, .ref rp, .ref rx, .ref ry, g_rr, .ref rh, g_rd, .int ph, .int po]), (rp, aI G 16 fp), (rx, aI G 16 fx), (ry, aI G 16 fy), (rh, aI G 16 fh)]) rfl (by decide) ?_
        exact z_iret X rfl de_X5_leadWithPound_65 (Nat.le_of_ble_eq_true rfl) (Nat.le_of_ble_eq_true rfl) ⟨(rz_1 + (po * (fx ph.toNatClampNeg))), (by unfold lwp; rw [if_pos ⟨by omega, by omega⟩, f3_2]; unfold axs; rw [if_pos (by omega)]), rfl, rfl⟩

theorem de_X11_leads_4 : decode cX11_leads 4 = .ok (.if_icmp .ge 16, 3) := by decide +kernel
theorem de_X11_leads_24 : decode cX11_leads 24 = .ok (.getfield 63, 3) := by decide +kernel
theorem de_X11_leads_27 : decode cX11_leads 27 = .ok (.if_icmp .ge 80, 3) := by decide +kernel
theorem de_X11_leads_107 : decode cX11_leads 107 = .ok (.return_, 1) := by decide +kernel
theorem de_X11_leads_31 : decode cX11_leads 31 = .ok (.getfield 82, 3) := by decide +kernel
theorem de_X11_leads_35 : decode cX11_leads 35 = .ok (.iaload, 1) := by decide +kernel
theorem de_X11_leads_38 : decode cX11_leads 38 = .ok (.if_icmp .ne 7, 3) := by decide +kernel
theorem de_X11_leads_50 : decode cX11_leads 50 = .ok (.getfield 166, 3) := by decide +kernel
theorem de_X11_leads_55 : decode cX11_leads 55 = .ok (.getfield 66, 3) := by decide +kernel
theorem de_X11_leads_59 : decode cX11_leads 59 = .ok (.iaload, 1) := by decide +kernel
theorem de_X11_leads_62 : decode cX11_leads 62 = .ok (.iaload, 1) := by decide +kernel
theorem de_X11_leads_66 : decode cX11_leads 66 = .ok (.getfield 69, 3) := by decide +kernel
theorem de_X11_leads_70 : decode cX11_leads 70 = .ok (.iaload, 1) := by decide +kernel
theorem de_X11_leads_73 : decode cX11_leads 73 = .ok (.iastore, 1) := by decide +kernel
theorem de_X11_leads_75 : decode cX11_leads 75 = .ok (.getfield 166, 3) := by decide +kernel
theorem de_X11_leads_80 : decode cX11_leads 80 = .ok (.getfield 66, 3) := by decide +kernel
theorem de_X11_leads_84 : decode cX11_leads 84 = .ok (.iaload, 1) := by decide +kernel
theorem de_X11_leads_89 : decode cX11_leads 89 = .ok (.iaload, 1) := by decide +kernel
theorem de_X11_leads_93 : decode cX11_leads 93 = .ok (.getfield 76, 3) := by decide +kernel
theorem de_X11_leads_97 : decode cX11_leads 97 = .ok (.iaload, 1) := by decide +kernel
theorem de_X11_leads_100 : decode cX11_leads 100 = .ok (.iastore, 1) := by decide +kernel
theorem de_X11_leads_104 : decode cX11_leads 104 = .ok (.goto (-82), 3) := by decide +kernel
theorem de_X11_leads_42 : decode cX11_leads 42 = .ok (.goto 4, 3) := by decide +kernel
theorem de_X11_leads_8 : decode cX11_leads 8 = .ok (.getfield 166, 3) := by decide +kernel
theorem de_X11_leads_13 : decode cX11_leads 13 = .ok (.iastore, 1) := by decide +kernel
theorem de_X11_leads_17 : decode cX11_leads 17 = .ok (.goto (-15), 3) := by decide +kernel
abbrev be_X11_leads_0_2 : ZB := [(.iconst 0, .int 0), (.istore_n 3, .null)]
theorem ke_X11_leads_0_2 : zchk cX11_leads be_X11_leads_0_2 0 = true ∧ zpc be_X11_leads_0_2 0 = 2 := ⟨by decide +kernel, rfl⟩
abbrev be_X11_leads_2_4 : ZB := [(.iload_n 3, .null), (.iconst 4, .int 4)]
theorem ke_X11_leads_2_4 : zchk cX11_leads be_X11_leads_2_4 2 = true ∧ zpc be_X11_leads_2_4 2 = 4 := ⟨by decide +kernel, rfl⟩
abbrev be_X11_leads_20_22 : ZB := [(.iconst 0, .int 0), (.istore_n 3, .null)]
theorem ke_X11_leads_20_22 : zchk cX11_leads be_X11_leads_20_22 20 = true ∧ zpc be_X11_leads_20_22 20 = 22 := ⟨by decide +kernel, rfl⟩
abbrev be_X11_leads_22_24 : ZB := [(.iload_n 3, .null), (.aload_n 0, .null)]
theorem ke_X11_leads_22_24 : zchk cX11_leads be_X11_leads_22_24 22 = true ∧ zpc be_X11_leads_22_24 22 = 24 := ⟨by decide +kernel, rfl⟩
abbrev be_X11_leads_30_31 : ZB := [(.aload_n 0, .null)]
theorem ke_X11_leads_30_31 : zchk cX11_leads be_X11_leads_30_31 30 = true ∧ zpc be_X11_leads_30_31 30 = 31 := ⟨by decide +kernel, rfl⟩
abbrev be_X11_leads_34_35 : ZB := [(.iload_n 3, .null)]
theorem ke_X11_leads_34_35 : zchk cX11_leads be_X11_leads_34_35 34 = true ∧ zpc be_X11_leads_34_35 34 = 35 := ⟨by decide +kernel, rfl⟩
abbrev be_X11_leads_36_38 : ZB := [(.iload_n 3, .null), (.iload_n 1, .null)]
theorem ke_X11_leads_36_38 : zchk cX11_leads be_X11_leads_36_38 36 = true ∧ zpc be_X11_leads_36_38 36 = 38 := ⟨by decide +kernel, rfl⟩
abbrev be_X11_leads_45_50 : ZB := [(.iconst 0, .int 0), (.iadd, .null), (.istore 4, .null), (.aload_n 0, .null)]
theorem ke_X11_leads_45_50 : zchk cX11_leads be_X11_leads_45_50 45 = true ∧ zpc be_X11_leads_45_50 45 = 50 := ⟨by decide +kernel, rfl⟩
abbrev be_X11_leads_53_55 : ZB := [(.iconst 2, .int 2), (.aload_n 0, .null)]
theorem ke_X11_leads_53_55 : zchk cX11_leads be_X11_leads_53_55 53 = true ∧ zpc be_X11_leads_53_55 53 = 55 := ⟨by decide +kernel, rfl⟩
abbrev be_X11_leads_58_59 : ZB := [(.iload_n 3, .null)]
theorem ke_X11_leads_58_59 : zchk cX11_leads be_X11_leads_58_59 58 = true ∧ zpc be_X11_leads_58_59 58 = 59 := ⟨by decide +kernel, rfl⟩
abbrev be_X11_leads_60_62 : ZB := [(.imul, .null), (.dup2, .null)]
theorem ke_X11_leads_60_62 : zchk cX11_leads be_X11_leads_60_62 60 = true ∧ zpc be_X11_leads_60_62 60 = 62 := ⟨by decide +kernel, rfl⟩
abbrev be_X11_leads_63_66 : ZB := [(.iload 4, .null), (.aload_n 0, .null)]
theorem ke_X11_leads_63_66 : zchk cX11_leads be_X11_leads_63_66 63 = true ∧ zpc be_X11_leads_63_66 63 = 66 := ⟨by decide +kernel, rfl⟩
abbrev be_X11_leads_69_70 : ZB := [(.iload_n 3, .null)]
theorem ke_X11_leads_69_70 : zchk cX11_leads be_X11_leads_69_70 69 = true ∧ zpc be_X11_leads_69_70 69 = 70 := ⟨by decide +kernel, rfl⟩
abbrev be_X11_leads_71_73 : ZB := [(.imul, .null), (.iadd, .null)]
theorem ke_X11_leads_71_73 : zchk cX11_leads be_X11_leads_71_73 71 = true ∧ zpc be_X11_leads_71_73 71 = 73 := ⟨by decide +kernel, rfl⟩
abbrev be_X11_leads_74_75 : ZB := [(.aload_n 0, .null)]
theorem ke_X11_leads_74_75 : zchk cX11_leads be_X11_leads_74_75 74 = true ∧ zpc be_X11_leads_74_75 74 = 75 := ⟨by decide +kernel, rfl⟩
abbrev be_X11_leads_78_80 : ZB := [(.iconst 2, .int 2), (.aload_n 0, .null)]
theorem ke_X11_leads_78_80 : zchk cX11_leads be_X11_leads_78_80 78 = true ∧ zpc be_X11_leads_78_80 78 = 80 := ⟨by decide +kernel, rfl⟩
abbrev be_X11_leads_83_84 : ZB := [(.iload_n 3, .null)]
theorem ke_X11_leads_83_84 : zchk cX11_leads be_X11_leads_83_84 83 = true ∧ zpc be_X11_leads_83_84 83 = 84 := ⟨by decide +kernel, rfl⟩
abbrev be_X11_leads_85_89 : ZB := [(.imul, .null), (.iconst 1, .int 1), (.iadd, .null), (.dup2, .null)]
theorem ke_X11_leads_85_89 : zchk cX11_leads be_X11_leads_85_89 85 = true ∧ zpc be_X11_leads_85_89 85 = 89 := ⟨by decide +kernel, rfl⟩
abbrev be_X11_leads_90_93 : ZB := [(.iload 4, .null), (.aload_n 0, .null)]
theorem ke_X11_leads_90_93 : zchk cX11_leads be_X11_leads_90_93 90 = true ∧ zpc be_X11_leads_90_93 90 = 93 := ⟨by decide +kernel, rfl⟩
abbrev be_X11_leads_96_97 : ZB := [(.iload_n 3, .null)]
theorem ke_X11_leads_96_97 : zchk cX11_leads be_X11_leads_96_97 96 = true ∧ zpc be_X11_leads_96_97 96 = 97 := ⟨by decide +kernel, rfl⟩
abbrev be_X11_leads_98_100 : ZB := [(.imul, .null), (.iadd, .null)]
theorem ke_X11_leads_98_100 : zchk cX11_leads be_X11_leads_98_100 98 = true ∧ zpc be_X11_leads_98_100 98 = 100 := ⟨by decide +kernel, rfl⟩
abbrev be_X11_leads_101_104 : ZB := [(.iinc 3 1, .int 1)]
theorem ke_X11_leads_101_104 : zchk cX11_leads be_X11_leads_101_104 101 = true ∧ zpc be_X11_leads_101_104 101 = 104 := ⟨by decide +kernel, rfl⟩
abbrev be_X11_leads_41_42 : ZB := [(.iload_n 2, .null)]
theorem ke_X11_leads_41_42 : zchk cX11_leads be_X11_leads_41_42 41 = true ∧ zpc be_X11_leads_41_42 41 = 42 := ⟨by decide +kernel, rfl⟩
abbrev be_X11_leads_46_50 : ZB := [(.iadd, .null), (.istore 4, .null), (.aload_n 0, .null)]
theorem ke_X11_leads_46_50 : zchk cX11_leads be_X11_leads_46_50 46 = true ∧ zpc be_X11_leads_46_50 46 = 50 := ⟨by decide +kernel, rfl⟩
abbrev be_X11_leads_7_8 : ZB := [(.aload_n 0, .null)]
theorem ke_X11_leads_7_8 : zchk cX11_leads be_X11_leads_7_8 7 = true ∧ zpc be_X11_leads_7_8 7 = 8 := ⟨by decide +kernel, rfl⟩
abbrev be_X11_leads_11_13 : ZB := [(.iload_n 3, .null), (.iconst 0, .int 0)]
theorem ke_X11_leads_11_13 : zchk cX11_leads be_X11_leads_11_13 11 = true ∧ zpc be_X11_leads_11_13 11 = 13 := ⟨by decide +kernel, rfl⟩
abbrev be_X11_leads_14_17 : ZB := [(.iinc 3 1, .int 1)]
theorem ke_X11_leads_14_17 : zchk cX11_leads be_X11_leads_14_17 14 = true ∧ zpc be_X11_leads_14_17 14 = 17 := ⟨by decide +kernel, rfl⟩
set_option maxHeartbeats 4000000 in
set_option maxRecDepth 100000 in
theorem ce_X11_leads (l : Launch) (G : KG) (mo : Nat) (th : Int32) (g_rows : Value) (g_row : Value) (hc : Int32) (r_planeOf : Nat) (r_holeX : Nat) (r_holeY : Nat) (r_room : Nat) (r_ounces : Nat) (r_deepOf : Nat) (sc : Int32) (r_factor : Nat) (r_otherOf : Nat) (r_isApart : Nat) (g_apartX : Value) (g_apartY : Value) (cc : Int32) (r_weight : Nat) (r_tape : Nat) (n : Int32) (p : Int32) (lim : Int32) (fi : Int32) (g_crossOf : Value) (g_trueX : Value) (g_trueY : Value) (g_thoughtX : Value) (g_thoughtY : Value) (g_poundHole : Int32) (g_poundOunces : Int32) (r_lead : Nat) (g_trials : Value) (g_trialSpeed : Value) (g_isWhole : Value) (g_trialX : Value) (g_trialY : Value) (g_trialGive : Value) (g_trialLead : Value) (g_baseX : Value) (g_baseY : Value) (g_timesPull : Value) (g_trialBaseX : Value) (g_trialBaseY : Value) (g_trialTimes : Value) (g_pulls : Value) (g_pullMany : Value) (g_sizes : Value) (g_merged : Value) (g_nextHole : Value) (g_nextOunces : Value) (g_leftBehind : Value) (g_manUp : Value) (g_manLow : Value) (g_asked : Value) (g_lowOf : Value) (g_highOf : Value) (g_tried : Value) (g_found : Value) (g_askedMany : Value) (g_mostHoles : Value) (g_isFound : Value) (g_foundRest : Value) (g_foundOunces : Value) (g_question : Value) (g_questionSpeed : Value) (g_ounceRest : Value) (g_parts : Value) (g_filled : Value) (g_cogAt : Value) (g_cogBest : Value) (g_isOrdered : Value) (g_orderSize : Value) (g_isKept : Value) (g_kept : Value) (g_keptAt : Value) (fp : Nat → Int32) (fx : Nat → Int32) (fy : Nat → Int32) (fo : Nat → Int32) (fl : Nat → Int32) (uq : Int32) (mq : Int32) (hci : Int) (ui : Int) (hhc : hc.toInt = hci) (huq : uq.toInt = ui) (hc0 : 0 ≤ hci ∧ hci ≤ 16) (hpl : ∀ j : Nat, (j : Int) < hci → 0 ≤ (fp j).toInt ∧ (fp j).toInt ≤ 1) : Ct l G yX11_leads cX11_leads 5 none { frames := 0, cells := 0, slots := 0, locals := 0 } [.ref mo, .int uq, .int mq] [(mo, ob 11 [.int th, g_rows, g_row, .int hc, .ref r_planeOf, .ref r_holeX, .ref r_holeY, .ref r_room, .ref r_ounces, .ref r_deepOf, .int sc, .ref r_factor, .ref r_otherOf, .ref r_isApart, g_apartX, g_apartY, .int cc, .ref r_weight, .ref r_tape, .int n, .int p, .int lim, .int fi, g_crossOf, g_trueX, g_trueY, g_thoughtX, g_thoughtY, .int g_poundHole, .int g_poundOunces, .ref r_lead, g_trials, g_trialSpeed, g_isWhole, g_trialX, g_trialY, g_trialGive, g_trialLead, g_baseX, g_baseY, g_timesPull, g_trialBaseX, g_trialBaseY, g_trialTimes, g_pulls, g_pullMany, g_sizes, g_merged, g_nextHole, g_nextOunces, g_leftBehind, g_manUp, g_manLow, g_asked, g_lowOf, g_highOf, g_tried, g_found, g_askedMany, g_mostHoles, g_isFound, g_foundRest, g_foundOunces, g_question, g_questionSpeed, g_ounceRest, g_parts, g_filled, g_cogAt, g_cogBest, g_isOrdered, g_orderSize, g_isKept, g_kept, g_keptAt]), (r_lead, aI G 4 fl), (r_planeOf, aI G 16 fp), (r_holeX, aI G 16 fx), (r_holeY, aI G 16 fy), (r_ounces, aI G 16 fo)] (fun r w1 => ∃ (fl2 : Nat → Int32), (∀ j : Nat, j < 4 → fl2 j = ldq fp (its fo uq mq) fx fy hci.toNat j) ∧ r = none ∧ w1 = [(mo, ob 11 [.int th, g_rows, g_row, .int hc, .ref r_planeOf, .ref r_holeX, .ref r_holeY, .ref r_room, .ref r_ounces, .ref r_deepOf, .int sc, .ref r_factor, .ref r_otherOf, .ref r_isApart, g_apartX, g_apartY, .int cc, .ref r_weight, .ref r_tape, .int n, .int p, .int lim, .int fi, g_crossOf, g_trueX, g_trueY, g_thoughtX, g_thoughtY, .int g_poundHole, .int g_poundOunces, .ref r_lead, g_trials, g_trialSpeed, g_isWhole, g_trialX, g_trialY, g_trialGive, g_trialLead, g_baseX, g_baseY, g_timesPull, g_trialBaseX, g_trialBaseY, g_trialTimes, g_pulls, g_pullMany, g_sizes, g_merged, g_nextHole, g_nextOunces, g_leftBehind, g_manUp, g_manLow, g_asked, g_lowOf, g_highOf, g_tried, g_found, g_askedMany, g_mostHoles, g_isFound, g_foundRest, g_foundOunces, g_question, g_questionSpeed, g_ounceRest, g_parts, g_filled, g_cogAt, g_cogBest, g_isOrdered, g_orderSize, g_isKept, g_kept, g_keptAt]), (r_lead, aI G 4 fl2), (r_planeOf, aI G 16 fp), (r_holeX, aI G 16 fx), (r_holeY, aI G 16 fy), (r_ounces, aI G 16 fo)]) := by
  refine ct_of [(0, .ref mo), (1, .int uq), (2, .int mq)] (by decide) (Nat.le_of_ble_eq_true rfl) rfl ?_
  intro p0 e0 s0 m0 args0 below0 meth0 c0 A X
  refine z_run X be_X11_leads_0_2 ke_X11_leads_0_2 (lv' := [(3, .int 0), (0, .ref mo), (1, .int uq), (2, .int mq)]) (st' := []) rfl ?_
  refine zloop (σ := Int32 × (Nat → Int32)) (fun z => [(3, .int z.1), (0, .ref mo), (1, .int uq), (2, .int mq)]) (fun z => []) (fun z => [(mo, ob 11 [.int th, g_rows, g_row, .int hc, .ref r_planeOf, .ref r_holeX, .ref r_holeY, .ref r_room, .ref r_ounces, .ref r_deepOf, .int sc, .ref r_factor, .ref r_otherOf, .ref r_isApart, g_apartX, g_apartY, .int cc, .ref r_weight, .ref r_tape, .int n, .int p, .int lim, .int fi, g_crossOf, g_trueX, g_trueY, g_thoughtX, g_thoughtY, .int g_poundHole, .int g_poundOunces, .ref r_lead, g_trials, g_trialSpeed, g_isWhole, g_trialX, g_trialY, g_trialGive, g_trialLead, g_baseX, g_baseY, g_timesPull, g_trialBaseX, g_trialBaseY, g_trialTimes, g_pulls, g_pullMany, g_sizes, g_merged, g_nextHole, g_nextOunces, g_leftBehind, g_manUp, g_manLow, g_asked, g_lowOf, g_highOf, g_tried, g_found, g_askedMany, g_mostHoles, g_isFound, g_foundRest, g_foundOunces, g_question, g_questionSpeed, g_ounceRest, g_parts, g_filled, g_cogAt, g_cogBest, g_isOrdered, g_orderSize, g_isKept, g_kept, g_keptAt]), (r_lead, aI G 4 z.2), (r_planeOf, aI G 16 fp), (r_holeX, aI G 16 fx), (r_holeY, aI G 16 fy), (r_ounces, aI G 16 fo)]) (fun z => (0 ≤ z.1.toInt ∧ z.1.toInt ≤ 4) ∧ (∀ j : Nat, (j : Int) < z.1.toInt → z.2 j = (fun _ => (0 : Int32)) j)) (fun z => (4 - z.1.toInt).toNat) (0, fl) ?_ ?_
  ·
    rintro ⟨i_, g⟩ ⟨hi, hg⟩ ih2
    dsimp only at *
    refine z_run X be_X11_leads_2_4 ke_X11_leads_2_4 (lv' := [(3, .int i_), (0, .ref mo), (1, .int uq), (2, .int mq)]) (st' := [.int 4, .int i_]) rfl ?_
    refine zc_ge X de_X11_leads_4 (tgt := 20) (by decide) (a := i_.toInt) (b := 4) rfl (show (4 : Int32).toInt = 4 from by decide) (fun c4_1 => ?_) (fun c4_1 => ?_)
    ·
      refine z_run X be_X11_leads_20_22 ke_X11_leads_20_22 (lv' := [(3, .int 0), (0, .ref mo), (1, .int uq), (2, .int mq)]) (st' := []) rfl ?_
      refine zloop (σ := Int32 × (Nat → Int32)) (fun z => [(3, .int z.1), (0, .ref mo), (1, .int uq), (2, .int mq)]) (fun z => []) (fun z => [(mo, ob 11 [.int th, g_rows, g_row, .int hc, .ref r_planeOf, .ref r_holeX, .ref r_holeY, .ref r_room, .ref r_ounces, .ref r_deepOf, .int sc, .ref r_factor, .ref r_otherOf, .ref r_isApart, g_apartX, g_apartY, .int cc, .ref r_weight, .ref r_tape, .int n, .int p, .int lim, .int fi, g_crossOf, g_trueX, g_trueY, g_thoughtX, g_thoughtY, .int g_poundHole, .int g_poundOunces, .ref r_lead, g_trials, g_trialSpeed, g_isWhole, g_trialX, g_trialY, g_trialGive, g_trialLead, g_baseX, g_baseY, g_timesPull, g_trialBaseX, g_trialBaseY, g_trialTimes, g_pulls, g_pullMany, g_sizes, g_merged, g_nextHole, g_nextOunces, g_leftBehind, g_manUp, g_manLow, g_asked, g_lowOf, g_highOf, g_tried, g_found, g_askedMany, g_mostHoles, g_isFound, g_foundRest, g_foundOunces, g_question, g_questionSpeed, g_ounceRest, g_parts, g_filled, g_cogAt, g_cogBest, g_isOrdered, g_orderSize, g_isKept, g_kept, g_keptAt]), (r_lead, aI G 4 z.2), (r_planeOf, aI G 16 fp), (r_holeX, aI G 16 fx), (r_holeY, aI G 16 fy), (r_ounces, aI G 16 fo)]) (fun z => (0 ≤ z.1.toInt ∧ z.1.toInt ≤ hci) ∧ (∀ j : Nat, j < 4 → z.2 j = ldq fp (its fo uq mq) fx fy z.1.toInt.toNat j)) (fun z => (hci - z.1.toInt).toNat) (0, g) ?_ ?_
      ·
        rintro ⟨i_, g⟩ ⟨hi, hg⟩ ih22
        dsimp only at *
        refine z_run X be_X11_leads_22_24 ke_X11_leads_22_24 (lv' := [(3, .int i_), (0, .ref mo), (1, .int uq), (2, .int mq)]) (st' := [.ref mo, .int i_]) rfl ?_
        refine z_get X fl_11_63 de_X11_leads_24 0 rfl (v := .int hc) rfl ?_
        refine zc_ge X de_X11_leads_27 (tgt := 107) (by decide) (a := i_.toInt) (b := hci) rfl hhc (fun c27_2 => ?_) (fun c27_2 => ?_)
        ·
          exact z_vret X rfl de_X11_leads_107 (Nat.le_of_ble_eq_true rfl) (Nat.le_of_ble_eq_true rfl) ⟨g, (by intro j hj; rw [hg j hj, show i_.toInt.toNat = hci.toNat by omega]), rfl, rfl⟩
        ·
          refine z_run X be_X11_leads_30_31 ke_X11_leads_30_31 (lv' := [(3, .int i_), (0, .ref mo), (1, .int uq), (2, .int mq)]) (st' := [.ref mo]) rfl ?_
          refine z_get X fl_11_82 de_X11_leads_31 0 rfl (v := .ref r_ounces) rfl ?_
          refine z_run X be_X11_leads_34_35 ke_X11_leads_34_35 (lv' := [(3, .int i_), (0, .ref mo), (1, .int uq), (2, .int mq)]) (st' := [.int i_, .ref r_ounces]) rfl ?_
          refine z_iald X de_X11_leads_35 5 rfl (vin rfl (by omega) (by omega)) (v := (fo i_.toNatClampNeg)) rfl ?_
          refine z_run X be_X11_leads_36_38 ke_X11_leads_36_38 (lv' := [(3, .int i_), (0, .ref mo), (1, .int uq), (2, .int mq)]) (st' := [.int uq, .int i_, .int (fo i_.toNatClampNeg)]) rfl ?_
          refine zc_ne X de_X11_leads_38 (tgt := 45) (by decide) (a := i_.toInt) (b := ui) rfl huq (fun c38_3 => ?_) (fun c38_3 => ?_)
          ·
            have hpq_ : 0 ≤ (fp i_.toNatClampNeg).toInt ∧ (fp i_.toNatClampNeg).toInt ≤ 1 := hpl i_.toNatClampNeg (show ((i_.toInt.toNat : Nat) : Int) < hci by omega)
            refine z_run X be_X11_leads_45_50 ke_X11_leads_45_50 (lv' := [(4, .int ((fo i_.toNatClampNeg) + 0)), (3, .int i_), (0, .ref mo), (1, .int uq), (2, .int mq)]) (st' := [.ref mo]) rfl ?_
            refine z_get X fl_11_166 de_X11_leads_50 0 rfl (v := .ref r_lead) rfl ?_
            refine z_run X be_X11_leads_53_55 ke_X11_leads_53_55 (lv' := [(4, .int ((fo i_.toNatClampNeg) + 0)), (3, .int i_), (0, .ref mo), (1, .int uq), (2, .int mq)]) (st' := [.ref mo, .int 2, .ref r_lead]) rfl ?_
            refine z_get X fl_11_66 de_X11_leads_55 0 rfl (v := .ref r_planeOf) rfl ?_
            refine z_run X be_X11_leads_58_59 ke_X11_leads_58_59 (lv' := [(4, .int ((fo i_.toNatClampNeg) + 0)), (3, .int i_), (0, .ref mo), (1, .int uq), (2, .int mq)]) (st' := [.int i_, .ref r_planeOf, .int 2, .ref r_lead]) rfl ?_
            refine z_iald X de_X11_leads_59 2 rfl (vin rfl (by omega) (by omega)) (v := (fp i_.toNatClampNeg)) rfl ?_
            refine z_run X be_X11_leads_60_62 ke_X11_leads_60_62 (lv' := [(4, .int ((fo i_.toNatClampNeg) + 0)), (3, .int i_), (0, .ref mo), (1, .int uq), (2, .int mq)]) (st' := [.int (2 * (fp i_.toNatClampNeg)), .ref r_lead, .int (2 * (fp i_.toNatClampNeg)), .ref r_lead]) rfl ?_
            refine z_iald X de_X11_leads_62 1 rfl (vin (tI_mul (show (2 : Int32).toInt = 2 from by decide) rfl (by omega)) (by omega) (by omega)) (v := (g (2 * (fp i_.toNatClampNeg)).toNatClampNeg)) rfl ?_
            refine z_run X be_X11_leads_63_66 ke_X11_leads_63_66 (lv' := [(4, .int ((fo i_.toNatClampNeg) + 0)), (3, .int i_), (0, .ref mo), (1, .int uq), (2, .int mq)]) (st' := [.ref mo, .int ((fo i_.toNatClampNeg) + 0), .int (g (2 * (fp i_.toNatClampNeg)).toNatClampNeg), .int (2 * (fp i_.toNatClampNeg)), .ref r_lead]) rfl ?_
            refine z_get X fl_11_69 de_X11_leads_66 0 rfl (v := .ref r_holeX) rfl ?_
            refine z_run X be_X11_leads_69_70 ke_X11_leads_69_70 (lv' := [(4, .int ((fo i_.toNatClampNeg) + 0)), (3, .int i_), (0, .ref mo), (1, .int uq), (2, .int mq)]) (st' := [.int i_, .ref r_holeX, .int ((fo i_.toNatClampNeg) + 0), .int (g (2 * (fp i_.toNatClampNeg)).toNatClampNeg), .int (2 * (fp i_.toNatClampNeg)), .ref r_lead]) rfl ?_
            refine z_iald X de_X11_leads_70 3 rfl (vin rfl (by omega) (by omega)) (v := (fx i_.toNatClampNeg)) rfl ?_
            refine z_run X be_X11_leads_71_73 ke_X11_leads_71_73 (lv' := [(4, .int ((fo i_.toNatClampNeg) + 0)), (3, .int i_), (0, .ref mo), (1, .int uq), (2, .int mq)]) (st' := [.int ((g (2 * (fp i_.toNatClampNeg)).toNatClampNeg) + (((fo i_.toNatClampNeg) + 0) * (fx i_.toNatClampNeg))), .int (2 * (fp i_.toNatClampNeg)), .ref r_lead]) rfl ?_
            refine z_iast X de_X11_leads_73 1 rfl (vin (tI_mul (show (2 : Int32).toInt = 2 from by decide) rfl (by omega)) (by omega) (by omega)) (ws' := [(mo, ob 11 [.int th, g_rows, g_row, .int hc, .ref r_planeOf, .ref r_holeX, .ref r_holeY, .ref r_room, .ref r_ounces, .ref r_deepOf, .int sc, .ref r_factor, .ref r_otherOf, .ref r_isApart, g_apartX, g_apartY, .int cc, .ref r_weight, .ref r_tape, .int n, .int p, .int lim, .int fi, g_crossOf, g_trueX, g_trueY, g_thoughtX, g_thoughtY, .int g_poundHole, .int g_poundOunces, .ref r_lead, g_trials, g_trialSpeed, g_isWhole, g_trialX, g_trialY, g_trialGive, g_trialLead, g_baseX, g_baseY, g_timesPull, g_trialBaseX, g_trialBaseY, g_trialTimes, g_pulls, g_pullMany, g_sizes, g_merged, g_nextHole, g_nextOunces, g_leftBehind, g_manUp, g_manLow, g_asked, g_lowOf, g_highOf, g_tried, g_found, g_askedMany, g_mostHoles, g_isFound, g_foundRest, g_foundOunces, g_question, g_questionSpeed, g_ounceRest, g_parts, g_filled, g_cogAt, g_cogBest, g_isOrdered, g_orderSize, g_isKept, g_kept, g_keptAt]), (r_lead, aI G 4 (upd g (2 * (fp i_.toNatClampNeg)).toNatClampNeg ((g (2 * (fp i_.toNatClampNeg)).toNatClampNeg) + (((fo i_.toNatClampNeg) + 0) * (fx i_.toNatClampNeg))))), (r_planeOf, aI G 16 fp), (r_holeX, aI G 16 fx), (r_holeY, aI G 16 fy), (r_ounces, aI G 16 fo)]) rfl ?_
            refine z_run X be_X11_leads_74_75 ke_X11_leads_74_75 (lv' := [(4, .int ((fo i_.toNatClampNeg) + 0)), (3, .int i_), (0, .ref mo), (1, .int uq), (2, .int mq)]) (st' := [.ref mo]) rfl ?_
            refine z_get X fl_11_166 de_X11_leads_75 0 rfl (v := .ref r_lead) rfl ?_
            refine z_run X be_X11_leads_78_80 ke_X11_leads_78_80 (lv' := [(4, .int ((fo i_.toNatClampNeg) + 0)), (3, .int i_), (0, .ref mo), (1, .int uq), (2, .int mq)]) (st' := [.ref mo, .int 2, .ref r_lead]) rfl ?_
            refine z_get X fl_11_66 de_X11_leads_80 0 rfl (v := .ref r_planeOf) rfl ?_
            refine z_run X be_X11_leads_83_84 ke_X11_leads_83_84 (lv' := [(4, .int ((fo i_.toNatClampNeg) + 0)), (3, .int i_), (0, .ref mo), (1, .int uq), (2, .int mq)]) (st' := [.int i_, .ref r_planeOf, .int 2, .ref r_lead]) rfl ?_
            refine z_iald X de_X11_leads_84 2 rfl (vin rfl (by omega) (by omega)) (v := (fp i_.toNatClampNeg)) rfl ?_
            refine z_run X be_X11_leads_85_89 ke_X11_leads_85_89 (lv' := [(4, .int ((fo i_.toNatClampNeg) + 0)), (3, .int i_), (0, .ref mo), (1, .int uq), (2, .int mq)]) (st' := [.int ((2 * (fp i_.toNatClampNeg)) + 1), .ref r_lead, .int ((2 * (fp i_.toNatClampNeg)) + 1), .ref r_lead]) rfl ?_
            refine z_iald X de_X11_leads_89 1 rfl (vin (tI_add (tI_mul (show (2 : Int32).toInt = 2 from by decide) rfl (by omega)) (show (1 : Int32).toInt = 1 from by decide) (by omega)) (by omega) (by omega)) (v := ((upd g (2 * (fp i_.toNatClampNeg)).toNatClampNeg ((g (2 * (fp i_.toNatClampNeg)).toNatClampNeg) + (((fo i_.toNatClampNeg) + 0) * (fx i_.toNatClampNeg)))) ((2 * (fp i_.toNatClampNeg)) + 1).toNatClampNeg)) rfl ?_
            refine z_run X be_X11_leads_90_93 ke_X11_leads_90_93 (lv' := [(4, .int ((fo i_.toNatClampNeg) + 0)), (3, .int i_), (0, .ref mo), (1, .int uq), (2, .int mq)]) (st' := [.ref mo, .int ((fo i_.toNatClampNeg) + 0), .int ((upd g (2 * (fp i_.toNatClampNeg)).toNatClampNeg ((g (2 * (fp i_.toNatClampNeg)).toNatClampNeg) + (((fo i_.toNatClampNeg) + 0) * (fx i_.toNatClampNeg)))) ((2 * (fp i_.toNatClampNeg)) + 1).toNatClampNeg), .int ((2 * (fp i_.toNatClampNeg)) + 1), .ref r_lead]) rfl ?_
            refine z_get X fl_11_76 de_X11_leads_93 0 rfl (v := .ref r_holeY) rfl ?_
            refine z_run X be_X11_leads_96_97 ke_X11_leads_96_97 (lv' := [(4, .int ((fo i_.toNatClampNeg) + 0)), (3, .int i_), (0, .ref mo), (1, .int uq), (2, .int mq)]) (st' := [.int i_, .ref r_holeY, .int ((fo i_.toNatClampNeg) + 0), .int ((upd g (2 * (fp i_.toNatClampNeg)).toNatClampNeg ((g (2 * (fp i_.toNatClampNeg)).toNatClampNeg) + (((fo i_.toNatClampNeg) + 0) * (fx i_.toNatClampNeg)))) ((2 * (fp i_.toNatClampNeg)) + 1).toNatClampNeg), .int ((2 * (fp i_.toNatClampNeg)) + 1), .ref r_lead]) rfl ?_
            refine z_iald X de_X11_leads_97 4 rfl (vin rfl (by omega) (by omega)) (v := (fy i_.toNatClampNeg)) rfl ?_
            refine z_run X be_X11_leads_98_100 ke_X11_leads_98_100 (lv' := [(4, .int ((fo i_.toNatClampNeg) + 0)), (3, .int i_), (0, .ref mo), (1, .int uq), (2, .int mq)]) (st' := [.int (((upd g (2 * (fp i_.toNatClampNeg)).toNatClampNeg ((g (2 * (fp i_.toNatClampNeg)).toNatClampNeg) + (((fo i_.toNatClampNeg) + 0) * (fx i_.toNatClampNeg)))) ((2 * (fp i_.toNatClampNeg)) + 1).toNatClampNeg) + (((fo i_.toNatClampNeg) + 0) * (fy i_.toNatClampNeg))), .int ((2 * (fp i_.toNatClampNeg)) + 1), .ref r_lead]) rfl ?_
            refine z_iast X de_X11_leads_100 1 rfl (vin (tI_add (tI_mul (show (2 : Int32).toInt = 2 from by decide) rfl (by omega)) (show (1 : Int32).toInt = 1 from by decide) (by omega)) (by omega) (by omega)) (ws' := [(mo, ob 11 [.int th, g_rows, g_row, .int hc, .ref r_planeOf, .ref r_holeX, .ref r_holeY, .ref r_room, .ref r_ounces, .ref r_deepOf, .int sc, .ref r_factor, .ref r_otherOf, .ref r_isApart, g_apartX, g_apartY, .int cc, .ref r_weight, .ref r_tape, .int n, .int p, .int lim, .int fi, g_crossOf, g_trueX, g_trueY, g_thoughtX, g_thoughtY, .int g_poundHole, .int g_poundOunces, .ref r_lead, g_trials, g_trialSpeed, g_isWhole, g_trialX, g_trialY, g_trialGive, g_trialLead, g_baseX, g_baseY, g_timesPull, g_trialBaseX, g_trialBaseY, g_trialTimes, g_pulls, g_pullMany, g_sizes, g_merged, g_nextHole, g_nextOunces, g_leftBehind, g_manUp, g_manLow, g_asked, g_lowOf, g_highOf, g_tried, g_found, g_askedMany, g_mostHoles, g_isFound, g_foundRest, g_foundOunces, g_question, g_questionSpeed, g_ounceRest, g_parts, g_filled, g_cogAt, g_cogBest, g_isOrdered, g_orderSize, g_isKept, g_kept, g_keptAt]), (r_lead, aI G 4 (upd (upd g (2 * (fp i_.toNatClampNeg)).toNatClampNeg ((g (2 * (fp i_.toNatClampNeg)).toNatClampNeg) + (((fo i_.toNatClampNeg) + 0) * (fx i_.toNatClampNeg)))) ((2 * (fp i_.toNatClampNeg)) + 1).toNatClampNeg (((upd g (2 * (fp i_.toNatClampNeg)).toNatClampNeg ((g (2 * (fp i_.toNatClampNeg)).toNatClampNeg) + (((fo i_.toNatClampNeg) + 0) * (fx i_.toNatClampNeg)))) ((2 * (fp i_.toNatClampNeg)) + 1).toNatClampNeg) + (((fo i_.toNatClampNeg) + 0) * (fy i_.toNatClampNeg))))), (r_planeOf, aI G 16 fp), (r_holeX, aI G 16 fx), (r_holeY, aI G 16 fy), (r_ounces, aI G 16 fo)]) rfl ?_
            refine z_run X be_X11_leads_101_104 ke_X11_leads_101_104 (lv' := [(3, .int (i_ + 1)), (4, .int ((fo i_.toNatClampNeg) + 0)), (0, .ref mo), (1, .int uq), (2, .int mq)]) (st' := []) rfl ?_
            refine z_goto X de_X11_leads_104 (tgt := 22) (by decide) ?_
            refine Z.sub (lv' := [(3, .int (i_ + 1)), (0, .ref mo), (1, .int uq), (2, .int mq)]) [0, 2, 3, 4] rfl [0, 1, 2, 3, 4, 5] (ws' := [(mo, ob 11 [.int th, g_rows, g_row, .int hc, .ref r_planeOf, .ref r_holeX, .ref r_holeY, .ref r_room, .ref r_ounces, .ref r_deepOf, .int sc, .ref r_factor, .ref r_otherOf, .ref r_isApart, g_apartX, g_apartY, .int cc, .ref r_weight, .ref r_tape, .int n, .int p, .int lim, .int fi, g_crossOf, g_trueX, g_trueY, g_thoughtX, g_thoughtY, .int g_poundHole, .int g_poundOunces, .ref r_lead, g_trials, g_trialSpeed, g_isWhole, g_trialX, g_trialY, g_trialGive, g_trialLead, g_baseX, g_baseY, g_timesPull, g_trialBaseX, g_trialBaseY, g_trialTimes, g_pulls, g_pullMany, g_sizes, g_merged, g_nextHole, g_nextOunces, g_leftBehind, g_manUp, g_manLow, g_asked, g_lowOf, g_highOf, g_tried, g_found, g_askedMany, g_mostHoles, g_isFound, g_foundRest, g_foundOunces, g_question, g_questionSpeed, g_ounceRest, g_parts, g_filled, g_cogAt, g_cogBest, g_isOrdered, g_orderSize, g_isKept, g_kept, g_keptAt]), (r_lead, aI G 4 (upd (upd g (2 * (fp i_.toNatClampNeg)).toNatClampNeg ((g (2 * (fp i_.toNatClampNeg)).toNatClampNeg) + (((fo i_.toNatClampNeg) + 0) * (fx i_.toNatClampNeg)))) ((2 * (fp i_.toNatClampNeg)) + 1).toNatClampNeg (((upd g (2 * (fp i_.toNatClampNeg)).toNatClampNeg ((g (2 * (fp i_.toNatClampNeg)).toNatClampNeg) + (((fo i_.toNatClampNeg) + 0) * (fx i_.toNatClampNeg)))) ((2 * (fp i_.toNatClampNeg)) + 1).toNatClampNeg) + (((fo i_.toNatClampNeg) + 0) * (fy i_.toNatClampNeg))))), (r_planeOf, aI G 16 fp), (r_holeX, aI G 16 fx), (r_holeY, aI G 16 fy), (r_ounces, aI G 16 fo)]) rfl (by decide) ?_
            exact ih22 ((i_ + 1), (upd (upd g (2 * (fp i_.toNatClampNeg)).toNatClampNeg ((g (2 * (fp i_.toNatClampNeg)).toNatClampNeg) + (((fo i_.toNatClampNeg) + 0) * (fx i_.toNatClampNeg)))) ((2 * (fp i_.toNatClampNeg)) + 1).toNatClampNeg (((upd g (2 * (fp i_.toNatClampNeg)).toNatClampNeg ((g (2 * (fp i_.toNatClampNeg)).toNatClampNeg) + (((fo i_.toNatClampNeg) + 0) * (fx i_.toNatClampNeg)))) ((2 * (fp i_.toNatClampNeg)) + 1).toNatClampNeg) + (((fo i_.toNatClampNeg) + 0) * (fy i_.toNatClampNeg))))) ⟨(by dsimp only; have e : (i_ + 1).toInt = i_.toInt + 1 := tI_add rfl (show (1 : Int32).toInt = 1 from by decide) (by omega); omega), (by dsimp only; have e : (i_ + 1).toInt = i_.toInt + 1 := tI_add rfl (show (1 : Int32).toInt = 1 from by decide) (by omega); rw [e, show (i_.toInt + 1).toNat = i_.toInt.toNat + 1 by omega]; exact ldq_step rfl (its_no (fo := fo) (u := uq) (m := mq) (j := i_.toInt.toNat) (by omega)).symm rfl rfl (hpl i_.toInt.toNat (by omega)) hg)⟩ (by dsimp only; have e : (i_ + 1).toInt = i_.toInt + 1 := tI_add rfl (show (1 : Int32).toInt = 1 from by decide) (by omega); omega)
          ·
            have hpq_ : 0 ≤ (fp i_.toNatClampNeg).toInt ∧ (fp i_.toNatClampNeg).toInt ≤ 1 := hpl i_.toNatClampNeg (show ((i_.toInt.toNat : Nat) : Int) < hci by omega)
            refine z_run X be_X11_leads_41_42 ke_X11_leads_41_42 (lv' := [(3, .int i_), (0, .ref mo), (1, .int uq), (2, .int mq)]) (st' := [.int mq, .int (fo i_.toNatClampNeg)]) rfl ?_
            refine z_goto X de_X11_leads_42 (tgt := 46) (by decide) ?_
            refine z_run X be_X11_leads_46_50 ke_X11_leads_46_50 (lv' := [(4, .int ((fo i_.toNatClampNeg) + mq)), (3, .int i_), (0, .ref mo), (1, .int uq), (2, .int mq)]) (st' := [.ref mo]) rfl ?_
            refine z_get X fl_11_166 de_X11_leads_50 0 rfl (v := .ref r_lead) rfl ?_
            refine z_run X be_X11_leads_53_55 ke_X11_leads_53_55 (lv' := [(4, .int ((fo i_.toNatClampNeg) + mq)), (3, .int i_), (0, .ref mo), (1, .int uq), (2, .int mq)]) (st' := [.ref mo, .int 2, .ref r_lead]) rfl ?_
            refine z_get X fl_11_66 de_X11_leads_55 0 rfl (v := .ref r_planeOf) rfl ?_
            refine z_run X be_X11_leads_58_59 ke_X11_leads_58_59 (lv' := [(4, .int ((fo i_.toNatClampNeg) + mq)), (3, .int i_), (0, .ref mo), (1, .int uq), (2, .int mq)]) (st' := [.int i_, .ref r_planeOf, .int 2, .ref r_lead]) rfl ?_
            refine z_iald X de_X11_leads_59 2 rfl (vin rfl (by omega) (by omega)) (v := (fp i_.toNatClampNeg)) rfl ?_
            refine z_run X be_X11_leads_60_62 ke_X11_leads_60_62 (lv' := [(4, .int ((fo i_.toNatClampNeg) + mq)), (3, .int i_), (0, .ref mo), (1, .int uq), (2, .int mq)]) (st' := [.int (2 * (fp i_.toNatClampNeg)), .ref r_lead, .int (2 * (fp i_.toNatClampNeg)), .ref r_lead]) rfl ?_
            refine z_iald X de_X11_leads_62 1 rfl (vin (tI_mul (show (2 : Int32).toInt = 2 from by decide) rfl (by omega)) (by omega) (by omega)) (v := (g (2 * (fp i_.toNatClampNeg)).toNatClampNeg)) rfl ?_
            refine z_run X be_X11_leads_63_66 ke_X11_leads_63_66 (lv' := [(4, .int ((fo i_.toNatClampNeg) + mq)), (3, .int i_), (0, .ref mo), (1, .int uq), (2, .int mq)]) (st' := [.ref mo, .int ((fo i_.toNatClampNeg) + mq), .int (g (2 * (fp i_.toNatClampNeg)).toNatClampNeg), .int (2 * (fp i_.toNatClampNeg)), .ref r_lead]) rfl ?_
            refine z_get X fl_11_69 de_X11_leads_66 0 rfl (v := .ref r_holeX) rfl ?_
            refine z_run X be_X11_leads_69_70 ke_X11_leads_69_70 (lv' := [(4, .int ((fo i_.toNatClampNeg) + mq)), (3, .int i_), (0, .ref mo), (1, .int uq), (2, .int mq)]) (st' := [.int i_, .ref r_holeX, .int ((fo i_.toNatClampNeg) + mq), .int (g (2 * (fp i_.toNatClampNeg)).toNatClampNeg), .int (2 * (fp i_.toNatClampNeg)), .ref r_lead]) rfl ?_
            refine z_iald X de_X11_leads_70 3 rfl (vin rfl (by omega) (by omega)) (v := (fx i_.toNatClampNeg)) rfl ?_
            refine z_run X be_X11_leads_71_73 ke_X11_leads_71_73 (lv' := [(4, .int ((fo i_.toNatClampNeg) + mq)), (3, .int i_), (0, .ref mo), (1, .int uq), (2, .int mq)]) (st' := [.int ((g (2 * (fp i_.toNatClampNeg)).toNatClampNeg) + (((fo i_.toNatClampNeg) + mq) * (fx i_.toNatClampNeg))), .int (2 * (fp i_.toNatClampNeg)), .ref r_lead]) rfl ?_
            refine z_iast X de_X11_leads_73 1 rfl (vin (tI_mul (show (2 : Int32).toInt = 2 from by decide) rfl (by omega)) (by omega) (by omega)) (ws' := [(mo, ob 11 [.int th, g_rows, g_row, .int hc, .ref r_planeOf, .ref r_holeX, .ref r_holeY, .ref r_room, .ref r_ounces, .ref r_deepOf, .int sc, .ref r_factor, .ref r_otherOf, .ref r_isApart, g_apartX, g_apartY, .int cc, .ref r_weight, .ref r_tape, .int n, .int p, .int lim, .int fi, g_crossOf, g_trueX, g_trueY, g_thoughtX, g_thoughtY, .int g_poundHole, .int g_poundOunces, .ref r_lead, g_trials, g_trialSpeed, g_isWhole, g_trialX, g_trialY, g_trialGive, g_trialLead, g_baseX, g_baseY, g_timesPull, g_trialBaseX, g_trialBaseY, g_trialTimes, g_pulls, g_pullMany, g_sizes, g_merged, g_nextHole, g_nextOunces, g_leftBehind, g_manUp, g_manLow, g_asked, g_lowOf, g_highOf, g_tried, g_found, g_askedMany, g_mostHoles, g_isFound, g_foundRest, g_foundOunces, g_question, g_questionSpeed, g_ounceRest, g_parts, g_filled, g_cogAt, g_cogBest, g_isOrdered, g_orderSize, g_isKept, g_kept, g_keptAt]), (r_lead, aI G 4 (upd g (2 * (fp i_.toNatClampNeg)).toNatClampNeg ((g (2 * (fp i_.toNatClampNeg)).toNatClampNeg) + (((fo i_.toNatClampNeg) + mq) * (fx i_.toNatClampNeg))))), (r_planeOf, aI G 16 fp), (r_holeX, aI G 16 fx), (r_holeY, aI G 16 fy), (r_ounces, aI G 16 fo)]) rfl ?_
            refine z_run X be_X11_leads_74_75 ke_X11_leads_74_75 (lv' := [(4, .int ((fo i_.toNatClampNeg) + mq)), (3, .int i_), (0, .ref mo), (1, .int uq), (2, .int mq)]) (st' := [.ref mo]) rfl ?_
            refine z_get X fl_11_166 de_X11_leads_75 0 rfl (v := .ref r_lead) rfl ?_
            refine z_run X be_X11_leads_78_80 ke_X11_leads_78_80 (lv' := [(4, .int ((fo i_.toNatClampNeg) + mq)), (3, .int i_), (0, .ref mo), (1, .int uq), (2, .int mq)]) (st' := [.ref mo, .int 2, .ref r_lead]) rfl ?_
            refine z_get X fl_11_66 de_X11_leads_80 0 rfl (v := .ref r_planeOf) rfl ?_
            refine z_run X be_X11_leads_83_84 ke_X11_leads_83_84 (lv' := [(4, .int ((fo i_.toNatClampNeg) + mq)), (3, .int i_), (0, .ref mo), (1, .int uq), (2, .int mq)]) (st' := [.int i_, .ref r_planeOf, .int 2, .ref r_lead]) rfl ?_
            refine z_iald X de_X11_leads_84 2 rfl (vin rfl (by omega) (by omega)) (v := (fp i_.toNatClampNeg)) rfl ?_
            refine z_run X be_X11_leads_85_89 ke_X11_leads_85_89 (lv' := [(4, .int ((fo i_.toNatClampNeg) + mq)), (3, .int i_), (0, .ref mo), (1, .int uq), (2, .int mq)]) (st' := [.int ((2 * (fp i_.toNatClampNeg)) + 1), .ref r_lead, .int ((2 * (fp i_.toNatClampNeg)) + 1), .ref r_lead]) rfl ?_
            refine z_iald X de_X11_leads_89 1 rfl (vin (tI_add (tI_mul (show (2 : Int32).toInt = 2 from by decide) rfl (by omega)) (show (1 : Int32).toInt = 1 from by decide) (by omega)) (by omega) (by omega)) (v := ((upd g (2 * (fp i_.toNatClampNeg)).toNatClampNeg ((g (2 * (fp i_.toNatClampNeg)).toNatClampNeg) + (((fo i_.toNatClampNeg) + mq) * (fx i_.toNatClampNeg)))) ((2 * (fp i_.toNatClampNeg)) + 1).toNatClampNeg)) rfl ?_
            refine z_run X be_X11_leads_90_93 ke_X11_leads_90_93 (lv' := [(4, .int ((fo i_.toNatClampNeg) + mq)), (3, .int i_), (0, .ref mo), (1, .int uq), (2, .int mq)]) (st' := [.ref mo, .int ((fo i_.toNatClampNeg) + mq), .int ((upd g (2 * (fp i_.toNatClampNeg)).toNatClampNeg ((g (2 * (fp i_.toNatClampNeg)).toNatClampNeg) + (((fo i_.toNatClampNeg) + mq) * (fx i_.toNatClampNeg)))) ((2 * (fp i_.toNatClampNeg)) + 1).toNatClampNeg), .int ((2 * (fp i_.toNatClampNeg)) + 1), .ref r_lead]) rfl ?_
            refine z_get X fl_11_76 de_X11_leads_93 0 rfl (v := .ref r_holeY) rfl ?_
            refine z_run X be_X11_leads_96_97 ke_X11_leads_96_97 (lv' := [(4, .int ((fo i_.toNatClampNeg) + mq)), (3, .int i_), (0, .ref mo), (1, .int uq), (2, .int mq)]) (st' := [.int i_, .ref r_holeY, .int ((fo i_.toNatClampNeg) + mq), .int ((upd g (2 * (fp i_.toNatClampNeg)).toNatClampNeg ((g (2 * (fp i_.toNatClampNeg)).toNatClampNeg) + (((fo i_.toNatClampNeg) + mq) * (fx i_.toNatClampNeg)))) ((2 * (fp i_.toNatClampNeg)) + 1).toNatClampNeg), .int ((2 * (fp i_.toNatClampNeg)) + 1), .ref r_lead]) rfl ?_
            refine z_iald X de_X11_leads_97 4 rfl (vin rfl (by omega) (by omega)) (v := (fy i_.toNatClampNeg)) rfl ?_
            refine z_run X be_X11_leads_98_100 ke_X11_leads_98_100 (lv' := [(4, .int ((fo i_.toNatClampNeg) + mq)), (3, .int i_), (0, .ref mo), (1, .int uq), (2, .int mq)]) (st' := [.int (((upd g (2 * (fp i_.toNatClampNeg)).toNatClampNeg ((g (2 * (fp i_.toNatClampNeg)).toNatClampNeg) + (((fo i_.toNatClampNeg) + mq) * (fx i_.toNatClampNeg)))) ((2 * (fp i_.toNatClampNeg)) + 1).toNatClampNeg) + (((fo i_.toNatClampNeg) + mq) * (fy i_.toNatClampNeg))), .int ((2 * (fp i_.toNatClampNeg)) + 1), .ref r_lead]) rfl ?_
            refine z_iast X de_X11_leads_100 1 rfl (vin (tI_add (tI_mul (show (2 : Int32).toInt = 2 from by decide) rfl (by omega)) (show (1 : Int32).toInt = 1 from by decide) (by omega)) (by omega) (by omega)) (ws' := [(mo, ob 11 [.int th, g_rows, g_row, .int hc, .ref r_planeOf, .ref r_holeX, .ref r_holeY, .ref r_room, .ref r_ounces, .ref r_deepOf, .int sc, .ref r_factor, .ref r_otherOf, .ref r_isApart, g_apartX, g_apartY, .int cc, .ref r_weight, .ref r_tape, .int n, .int p, .int lim, .int fi, g_crossOf, g_trueX, g_trueY, g_thoughtX, g_thoughtY, .int g_poundHole, .int g_poundOunces, .ref r_lead, g_trials, g_trialSpeed, g_isWhole, g_trialX, g_trialY, g_trialGive, g_trialLead, g_baseX, g_baseY, g_timesPull, g_trialBaseX, g_trialBaseY, g_trialTimes, g_pulls, g_pullMany, g_sizes, g_merged, g_nextHole, g_nextOunces, g_leftBehind, g_manUp, g_manLow, g_asked, g_lowOf, g_highOf, g_tried, g_found, g_askedMany, g_mostHoles, g_isFound, g_foundRest, g_foundOunces, g_question, g_questionSpeed, g_ounceRest, g_parts, g_filled, g_cogAt, g_cogBest, g_isOrdered, g_orderSize, g_isKept, g_kept, g_keptAt]), (r_lead, aI G 4 (upd (upd g (2 * (fp i_.toNatClampNeg)).toNatClampNeg ((g (2 * (fp i_.toNatClampNeg)).toNatClampNeg) + (((fo i_.toNatClampNeg) + mq) * (fx i_.toNatClampNeg)))) ((2 * (fp i_.toNatClampNeg)) + 1).toNatClampNeg (((upd g (2 * (fp i_.toNatClampNeg)).toNatClampNeg ((g (2 * (fp i_.toNatClampNeg)).toNatClampNeg) + (((fo i_.toNatClampNeg) + mq) * (fx i_.toNatClampNeg)))) ((2 * (fp i_.toNatClampNeg)) + 1).toNatClampNeg) + (((fo i_.toNatClampNeg) + mq) * (fy i_.toNatClampNeg))))), (r_planeOf, aI G 16 fp), (r_holeX, aI G 16 fx), (r_holeY, aI G 16 fy), (r_ounces, aI G 16 fo)]) rfl ?_
            refine z_run X be_X11_leads_101_104 ke_X11_leads_101_104 (lv' := [(3, .int (i_ + 1)), (4, .int ((fo i_.toNatClampNeg) + mq)), (0, .ref mo), (1, .int uq), (2, .int mq)]) (st' := []) rfl ?_
            refine z_goto X de_X11_leads_104 (tgt := 22) (by decide) ?_
            refine Z.sub (lv' := [(3, .int (i_ + 1)), (0, .ref mo), (1, .int uq), (2, .int mq)]) [0, 2, 3, 4] rfl [0, 1, 2, 3, 4, 5] (ws' := [(mo, ob 11 [.int th, g_rows, g_row, .int hc, .ref r_planeOf, .ref r_holeX, .ref r_holeY, .ref r_room, .ref r_ounces, .ref r_deepOf, .int sc, .ref r_factor, .ref r_otherOf, .ref r_isApart, g_apartX, g_apartY, .int cc, .ref r_weight, .ref r_tape, .int n, .int p, .int lim, .int fi, g_crossOf, g_trueX, g_trueY, g_thoughtX, g_thoughtY, .int g_poundHole, .int g_poundOunces, .ref r_lead, g_trials, g_trialSpeed, g_isWhole, g_trialX, g_trialY, g_trialGive, g_trialLead, g_baseX, g_baseY, g_timesPull, g_trialBaseX, g_trialBaseY, g_trialTimes, g_pulls, g_pullMany, g_sizes, g_merged, g_nextHole, g_nextOunces, g_leftBehind, g_manUp, g_manLow, g_asked, g_lowOf, g_highOf, g_tried, g_found, g_askedMany, g_mostHoles, g_isFound, g_foundRest, g_foundOunces, g_question, g_questionSpeed, g_ounceRest, g_parts, g_filled, g_cogAt, g_cogBest, g_isOrdered, g_orderSize, g_isKept, g_kept, g_keptAt]), (r_lead, aI G 4 (upd (upd g (2 * (fp i_.toNatClampNeg)).toNatClampNeg ((g (2 * (fp i_.toNatClampNeg)).toNatClampNeg) + (((fo i_.toNatClampNeg) + mq) * (fx i_.toNatClampNeg)))) ((2 * (fp i_.toNatClampNeg)) + 1).toNatClampNeg (((upd g (2 * (fp i_.toNatClampNeg)).toNatClampNeg ((g (2 * (fp i_.toNatClampNeg)).toNatClampNeg) + (((fo i_.toNatClampNeg) + mq) * (fx i_.toNatClampNeg)))) ((2 * (fp i_.toNatClampNeg)) + 1).toNatClampNeg) + (((fo i_.toNatClampNeg) + mq) * (fy i_.toNatClampNeg))))), (r_planeOf, aI G 16 fp), (r_holeX, aI G 16 fx), (r_holeY, aI G 16 fy), (r_ounces, aI G 16 fo)]) rfl (by decide) ?_
            exact ih22 ((i_ + 1), (upd (upd g (2 * (fp i_.toNatClampNeg)).toNatClampNeg ((g (2 * (fp i_.toNatClampNeg)).toNatClampNeg) + (((fo i_.toNatClampNeg) + mq) * (fx i_.toNatClampNeg)))) ((2 * (fp i_.toNatClampNeg)) + 1).toNatClampNeg (((upd g (2 * (fp i_.toNatClampNeg)).toNatClampNeg ((g (2 * (fp i_.toNatClampNeg)).toNatClampNeg) + (((fo i_.toNatClampNeg) + mq) * (fx i_.toNatClampNeg)))) ((2 * (fp i_.toNatClampNeg)) + 1).toNatClampNeg) + (((fo i_.toNatClampNeg) + mq) * (fy i_.toNatClampNeg))))) ⟨(by dsimp only; have e : (i_ + 1).toInt = i_.toInt + 1 := tI_add rfl (show (1 : Int32).toInt = 1 from by decide) (by omega); omega), (by dsimp only; have e : (i_ + 1).toInt = i_.toInt + 1 := tI_add rfl (show (1 : Int32).toInt = 1 from by decide) (by omega); rw [e, show (i_.toInt + 1).toNat = i_.toInt.toNat + 1 by omega]; exact ldq_step rfl (its_yes (fo := fo) (u := uq) (m := mq) (j := i_.toInt.toNat) (by omega)).symm rfl rfl (hpl i_.toInt.toNat (by omega)) hg)⟩ (by dsimp only; have e : (i_ + 1).toInt = i_.toInt + 1 := tI_add rfl (show (1 : Int32).toInt = 1 from by decide) (by omega); omega)
      · exact ⟨(by dsimp only; have e0 : (0 : Int32).toInt = 0 := (by decide); omega), (by dsimp only; have e0 : (0 : Int32).toInt = 0 := (by decide); rw [e0]; intro j hj; rw [hg j (by omega)]; exact ldq_zero.symm)⟩
    ·
      refine z_run X be_X11_leads_7_8 ke_X11_leads_7_8 (lv' := [(3, .int i_), (0, .ref mo), (1, .int uq), (2, .int mq)]) (st' := [.ref mo]) rfl ?_
      refine z_get X fl_11_166 de_X11_leads_8 0 rfl (v := .ref r_lead) rfl ?_
      refine z_run X be_X11_leads_11_13 ke_X11_leads_11_13 (lv' := [(3, .int i_), (0, .ref mo), (1, .int uq), (2, .int mq)]) (st' := [.int 0, .int i_, .ref r_lead]) rfl ?_
      refine z_iast X de_X11_leads_13 1 rfl (vin rfl (by omega) (by omega)) (ws' := [(mo, ob 11 [.int th, g_rows, g_row, .int hc, .ref r_planeOf, .ref r_holeX, .ref r_holeY, .ref r_room, .ref r_ounces, .ref r_deepOf, .int sc, .ref r_factor, .ref r_otherOf, .ref r_isApart, g_apartX, g_apartY, .int cc, .ref r_weight, .ref r_tape, .int n, .int p, .int lim, .int fi, g_crossOf, g_trueX, g_trueY, g_thoughtX, g_thoughtY, .int g_poundHole, .int g_poundOunces, .ref r_lead, g_trials, g_trialSpeed, g_isWhole, g_trialX, g_trialY, g_trialGive, g_trialLead, g_baseX, g_baseY, g_timesPull, g_trialBaseX, g_trialBaseY, g_trialTimes, g_pulls, g_pullMany, g_sizes, g_merged, g_nextHole, g_nextOunces, g_leftBehind, g_manUp, g_manLow, g_asked, g_lowOf, g_highOf, g_tried, g_found, g_askedMany, g_mostHoles, g_isFound, g_foundRest, g_foundOunces, g_question, g_questionSpeed, g_ounceRest, g_parts, g_filled, g_cogAt, g_cogBest, g_isOrdered, g_orderSize, g_isKept, g_kept, g_keptAt]), (r_lead, aI G 4 (upd g i_.toNatClampNeg 0)), (r_planeOf, aI G 16 fp), (r_holeX, aI G 16 fx), (r_holeY, aI G 16 fy), (r_ounces, aI G 16 fo)]) rfl ?_
      refine z_run X be_X11_leads_14_17 ke_X11_leads_14_17 (lv' := [(3, .int (i_ + 1)), (0, .ref mo), (1, .int uq), (2, .int mq)]) (st' := []) rfl ?_
      refine z_goto X de_X11_leads_17 (tgt := 2) (by decide) ?_
      exact ih2 ((i_ + 1), (upd g i_.toNatClampNeg 0)) ⟨(by dsimp only; have e : (i_ + 1).toInt = i_.toInt + 1 := tI_add rfl (show (1 : Int32).toInt = 1 from by decide) (by omega); omega), (by dsimp only; have e : (i_ + 1).toInt = i_.toInt + 1 := tI_add rfl (show (1 : Int32).toInt = 1 from by decide) (by omega); rw [e]; exact st_step hi.1 hg rfl)⟩ (by dsimp only; have e : (i_ + 1).toInt = i_.toInt + 1 := tI_add rfl (show (1 : Int32).toInt = 1 from by decide) (by omega); omega)
  · exact ⟨(by dsimp only; have e0 : (0 : Int32).toInt = 0 := (by decide); omega), (by dsimp only; have e0 : (0 : Int32).toInt = 0 := (by decide); intro j hj; omega)⟩

theorem de_X11_leadsNow_2 : decode cX11_leadsNow 2 = .ok (.getfield 158, 3) := by decide +kernel
theorem de_X11_leadsNow_6 : decode cX11_leadsNow 6 = .ok (.getfield 161, 3) := by decide +kernel
theorem de_X11_leadsNow_9 : decode cX11_leadsNow 9 = .ok (.invokevirtual 169, 3) := by decide +kernel
theorem de_X11_leadsNow_12 : decode cX11_leadsNow 12 = .ok (.return_, 1) := by decide +kernel
abbrev be_X11_leadsNow_0_2 : ZB := [(.aload_n 0, .null), (.aload_n 0, .null)]
theorem ke_X11_leadsNow_0_2 : zchk cX11_leadsNow be_X11_leadsNow_0_2 0 = true ∧ zpc be_X11_leadsNow_0_2 0 = 2 := ⟨by decide +kernel, rfl⟩
abbrev be_X11_leadsNow_5_6 : ZB := [(.aload_n 0, .null)]
theorem ke_X11_leadsNow_5_6 : zchk cX11_leadsNow be_X11_leadsNow_5_6 5 = true ∧ zpc be_X11_leadsNow_5_6 5 = 6 := ⟨by decide +kernel, rfl⟩
set_option maxHeartbeats 4000000 in
set_option maxRecDepth 100000 in
theorem ce_X11_leadsNow (l : Launch) (G : KG) (mo : Nat) (th : Int32) (g_rows : Value) (g_row : Value) (hc : Int32) (r_planeOf : Nat) (r_holeX : Nat) (r_holeY : Nat) (r_room : Nat) (r_ounces : Nat) (r_deepOf : Nat) (sc : Int32) (r_factor : Nat) (r_otherOf : Nat) (r_isApart : Nat) (g_apartX : Value) (g_apartY : Value) (cc : Int32) (r_weight : Nat) (r_tape : Nat) (n : Int32) (p : Int32) (lim : Int32) (fi : Int32) (g_crossOf : Value) (g_trueX : Value) (g_trueY : Value) (g_thoughtX : Value) (g_thoughtY : Value) (g_poundHole : Int32) (g_poundOunces : Int32) (r_lead : Nat) (g_trials : Value) (g_trialSpeed : Value) (g_isWhole : Value) (g_trialX : Value) (g_trialY : Value) (g_trialGive : Value) (g_trialLead : Value) (g_baseX : Value) (g_baseY : Value) (g_timesPull : Value) (g_trialBaseX : Value) (g_trialBaseY : Value) (g_trialTimes : Value) (g_pulls : Value) (g_pullMany : Value) (g_sizes : Value) (g_merged : Value) (g_nextHole : Value) (g_nextOunces : Value) (g_leftBehind : Value) (g_manUp : Value) (g_manLow : Value) (g_asked : Value) (g_lowOf : Value) (g_highOf : Value) (g_tried : Value) (g_found : Value) (g_askedMany : Value) (g_mostHoles : Value) (g_isFound : Value) (g_foundRest : Value) (g_foundOunces : Value) (g_question : Value) (g_questionSpeed : Value) (g_ounceRest : Value) (g_parts : Value) (g_filled : Value) (g_cogAt : Value) (g_cogBest : Value) (g_isOrdered : Value) (g_orderSize : Value) (g_isKept : Value) (g_kept : Value) (g_keptAt : Value) (fp : Nat → Int32) (fx : Nat → Int32) (fy : Nat → Int32) (fo : Nat → Int32) (fl : Nat → Int32) (hci : Int) (hhc : hc.toInt = hci) (hc0 : 0 ≤ hci ∧ hci ≤ 16) (hpl : ∀ j : Nat, (j : Int) < hci → 0 ≤ (fp j).toInt ∧ (fp j).toInt ≤ 1) : Ct l G yX11_leadsNow cX11_leadsNow 1 none { frames := 1, cells := 0, slots := 0, locals := 24 } [.ref mo] [(mo, ob 11 [.int th, g_rows, g_row, .int hc, .ref r_planeOf, .ref r_holeX, .ref r_holeY, .ref r_room, .ref r_ounces, .ref r_deepOf, .int sc, .ref r_factor, .ref r_otherOf, .ref r_isApart, g_apartX, g_apartY, .int cc, .ref r_weight, .ref r_tape, .int n, .int p, .int lim, .int fi, g_crossOf, g_trueX, g_trueY, g_thoughtX, g_thoughtY, .int g_poundHole, .int g_poundOunces, .ref r_lead, g_trials, g_trialSpeed, g_isWhole, g_trialX, g_trialY, g_trialGive, g_trialLead, g_baseX, g_baseY, g_timesPull, g_trialBaseX, g_trialBaseY, g_trialTimes, g_pulls, g_pullMany, g_sizes, g_merged, g_nextHole, g_nextOunces, g_leftBehind, g_manUp, g_manLow, g_asked, g_lowOf, g_highOf, g_tried, g_found, g_askedMany, g_mostHoles, g_isFound, g_foundRest, g_foundOunces, g_question, g_questionSpeed, g_ounceRest, g_parts, g_filled, g_cogAt, g_cogBest, g_isOrdered, g_orderSize, g_isKept, g_kept, g_keptAt]), (r_lead, aI G 4 fl), (r_planeOf, aI G 16 fp), (r_holeX, aI G 16 fx), (r_holeY, aI G 16 fy), (r_ounces, aI G 16 fo)] (fun r w1 => ∃ (fl2 : Nat → Int32), (∀ j : Nat, j < 4 → fl2 j = ldq fp (its fo g_poundHole g_poundOunces) fx fy hci.toNat j) ∧ r = none ∧ w1 = [(mo, ob 11 [.int th, g_rows, g_row, .int hc, .ref r_planeOf, .ref r_holeX, .ref r_holeY, .ref r_room, .ref r_ounces, .ref r_deepOf, .int sc, .ref r_factor, .ref r_otherOf, .ref r_isApart, g_apartX, g_apartY, .int cc, .ref r_weight, .ref r_tape, .int n, .int p, .int lim, .int fi, g_crossOf, g_trueX, g_trueY, g_thoughtX, g_thoughtY, .int g_poundHole, .int g_poundOunces, .ref r_lead, g_trials, g_trialSpeed, g_isWhole, g_trialX, g_trialY, g_trialGive, g_trialLead, g_baseX, g_baseY, g_timesPull, g_trialBaseX, g_trialBaseY, g_trialTimes, g_pulls, g_pullMany, g_sizes, g_merged, g_nextHole, g_nextOunces, g_leftBehind, g_manUp, g_manLow, g_asked, g_lowOf, g_highOf, g_tried, g_found, g_askedMany, g_mostHoles, g_isFound, g_foundRest, g_foundOunces, g_question, g_questionSpeed, g_ounceRest, g_parts, g_filled, g_cogAt, g_cogBest, g_isOrdered, g_orderSize, g_isKept, g_kept, g_keptAt]), (r_lead, aI G 4 fl2), (r_planeOf, aI G 16 fp), (r_holeX, aI G 16 fx), (r_holeY, aI G 16 fy), (r_ounces, aI G 16 fo)]) := by
  refine ct_of [(0, .ref mo)] (by decide) (Nat.le_of_ble_eq_true rfl) rfl ?_
  intro p0 e0 s0 m0 args0 below0 meth0 c0 A X
  refine z_run X be_X11_leadsNow_0_2 ke_X11_leadsNow_0_2 (lv' := [(0, .ref mo)]) (st' := [.ref mo, .ref mo]) rfl ?_
  refine z_get X fl_11_158 de_X11_leadsNow_2 0 rfl (v := .int g_poundHole) rfl ?_
  refine z_run X be_X11_leadsNow_5_6 ke_X11_leadsNow_5_6 (lv' := [(0, .ref mo)]) (st' := [.ref mo, .int g_poundHole, .ref mo]) rfl ?_
  refine z_get X fl_11_161 de_X11_leadsNow_6 0 rfl (v := .int g_poundOunces) rfl ?_
  refine z_callV X k_11_169 (ce_X11_leads l G mo th g_rows g_row hc r_planeOf r_holeX r_holeY r_room r_ounces r_deepOf sc r_factor r_otherOf r_isApart g_apartX g_apartY cc r_weight r_tape n p lim fi g_crossOf g_trueX g_trueY g_thoughtX g_thoughtY g_poundHole g_poundOunces r_lead g_trials g_trialSpeed g_isWhole g_trialX g_trialY g_trialGive g_trialLead g_baseX g_baseY g_timesPull g_trialBaseX g_trialBaseY g_trialTimes g_pulls g_pullMany g_sizes g_merged g_nextHole g_nextOunces g_leftBehind g_manUp g_manLow g_asked g_lowOf g_highOf g_tried g_found g_askedMany g_mostHoles g_isFound g_foundRest g_foundOunces g_question g_questionSpeed g_ounceRest g_parts g_filled g_cogAt g_cogBest g_isOrdered g_orderSize g_isKept g_kept g_keptAt fp fx fy fo fl g_poundHole g_poundOunces hci g_poundHole.toInt hhc rfl (by omega) (by omega)) de_X11_leadsNow_9 0 rfl rfl rfl ⟨Nat.le_of_ble_eq_true rfl, Nat.le_of_ble_eq_true rfl⟩ ⟨Nat.le_of_ble_eq_true rfl, Nat.le_of_ble_eq_true rfl⟩ rfl (rest := []) (As := [.int g_poundHole, .int g_poundOunces]) rfl (Nat.le_of_ble_eq_true rfl) [0, 1, 2, 3, 4, 5] [] rfl (by decide) (wr := []) rfl (by decide) (by decide) ?_
  rintro _ _ ⟨fl2_1, f9_2, rfl, rfl⟩
  refine Z.at (pc' := 12) (st' := []) (ws' := [(mo, ob 11 [.int th, g_rows, g_row, .int hc, .ref r_planeOf, .ref r_holeX, .ref r_holeY, .ref r_room, .ref r_ounces, .ref r_deepOf, .int sc, .ref r_factor, .ref r_otherOf, .ref r_isApart, g_apartX, g_apartY, .int cc, .ref r_weight, .ref r_tape, .int n, .int p, .int lim, .int fi, g_crossOf, g_trueX, g_trueY, g_thoughtX, g_thoughtY, .int g_poundHole, .int g_poundOunces, .ref r_lead, g_trials, g_trialSpeed, g_isWhole, g_trialX, g_trialY, g_trialGive, g_trialLead, g_baseX, g_baseY, g_timesPull, g_trialBaseX, g_trialBaseY, g_trialTimes, g_pulls, g_pullMany, g_sizes, g_merged, g_nextHole, g_nextOunces, g_leftBehind, g_manUp, g_manLow, g_asked, g_lowOf, g_highOf, g_tried, g_found, g_askedMany, g_mostHoles, g_isFound, g_foundRest, g_foundOunces, g_question, g_questionSpeed, g_ounceRest, g_parts, g_filled, g_cogAt, g_cogBest, g_isOrdered, g_orderSize, g_isKept, g_kept, g_keptAt]), (r_lead, aI G 4 fl2_1), (r_planeOf, aI G 16 fp), (r_holeX, aI G 16 fx), (r_holeY, aI G 16 fy), (r_ounces, aI G 16 fo)]) (kc' := 0) (ks' := 0) rfl rfl rfl rfl rfl ?_
  exact z_vret X rfl de_X11_leadsNow_12 (Nat.le_of_ble_eq_true rfl) (Nat.le_of_ble_eq_true rfl) ⟨fl2_1, (by assumption), rfl, rfl⟩

