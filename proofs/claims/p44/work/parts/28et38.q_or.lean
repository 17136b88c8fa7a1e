/-! order: what both sides do -/
def i32 (k : Nat) : Int32 := Int32.ofNat k
theorem i32_toInt {k : Nat} (h : k < 2147483648) : (i32 k).toInt = (k : Int) := Int32.toInt_ofNat_of_lt h
theorem i32_nat {i : Int32} (h : 0 ≤ i.toInt) : i32 i.toInt.toNat = i := by
  have u := i32_hi i
  unfold iMax at u
  exact Int32.toInt_inj.mp ((i32_toInt (by omega)).trans (by omega))
theorem bit01 (x : Int32) : (x &&& 1).toInt = 0 ∨ (x &&& 1).toInt = 1 := by
  have h : (x &&& 1).toBitVec.toNat = x.toBitVec.toNat % 2 := by
    rw [Int32.toBitVec_and, BitVec.toNat_and]
    exact Nat.and_one_is_mod _
  have e : (x &&& 1).toInt = ((x &&& 1).toBitVec.toNat : Int) := BitVec.toInt_eq_toNat_of_lt (by omega)
  rw [e, h]
  omega
abbrev bitF (u k : Int32) : Prop := ((u >>> (k &&& 31)) &&& 1).toInt = 0
def ordI (F : Int32 → Int64 → Int64) (u : Int32) : Nat → Int64 → Int64
  | 0, m => m
  | k + 1, m => if bitF u (i32 k) then F (i32 k) (ordI F u k m) else ordI F u k m
theorem ordI_yes {F : Int32 → Int64 → Int64} {u : Int32} {k : Nat} {m : Int64} (h : bitF u (i32 k)) : ordI F u (k + 1) m = F (i32 k) (ordI F u k m) := if_pos h
theorem ordI_no {F : Int32 → Int64 → Int64} {u : Int32} {k : Nat} {m : Int64} (h : ¬ bitF u (i32 k)) : ordI F u (k + 1) m = ordI F u k m := if_neg h
theorem ordI_y {F : Int32 → Int64 → Int64} {u i : Int32} {m v : Int64} (hi : 0 ≤ i.toInt) (h : bitF u i) (e : v = ordI F u i.toInt.toNat m) : ordI F u (i.toInt.toNat + 1) m = F i v := by
  have h2 : bitF u (i32 i.toInt.toNat) := by rw [i32_nat hi]; exact h
  rw [ordI_yes h2, i32_nat hi, ← e]
theorem ordI_n {F : Int32 → Int64 → Int64} {u i : Int32} {m v : Int64} (hi : 0 ≤ i.toInt) (h : ¬ bitF u i) (e : v = ordI F u i.toInt.toNat m) : ordI F u (i.toInt.toNat + 1) m = v := by
  have h2 : ¬ bitF u (i32 i.toInt.toNat) := by rw [i32_nat hi]; exact h
  rw [ordI_no h2, ← e]
def mn6 (a b : Int64) : Int64 := if a.toInt < b.toInt then a else b
theorem mn6_t {a b : Int64} (h : a.toInt < b.toInt) : mn6 a b = a := if_pos h
theorem mn6_f {a b : Int64} (h : ¬ a.toInt < b.toInt) : mn6 a b = b := if_neg h
def ordC (w fx fy : Nat → Int32) (c : Nat) : Nat → Nat → Int32 → Int32 → Int32 → Int64 → Int64
  | 0, _, _, x, y, m => mn6 (sz x y) m
  | d + 1, h, u, x, y, m => if h < c then ordI (fun k m => ordC w fx fy c d (h + 1) (u ||| ((1 : Int32) <<< (k &&& 31))) (x + w k.toNatClampNeg * fx h) (y + w k.toNatClampNeg * fy h) m) u c m else mn6 (sz x y) m
theorem ordC_leaf {w fx fy : Nat → Int32} {c d h : Nat} {u x y : Int32} {m : Int64} (q : ¬ h < c) : ordC w fx fy c d h u x y m = mn6 (sz x y) m := by
  cases d with
  | zero => rfl
  | succ d => exact if_neg q
theorem ordC_in {w fx fy : Nat → Int32} {c d h : Nat} {u x y : Int32} {m : Int64} (q : h < c) : ordC w fx fy c (d + 1) h u x y m = ordI (fun k m => ordC w fx fy c d (h + 1) (u ||| ((1 : Int32) <<< (k &&& 31))) (x + w k.toNatClampNeg * fx h) (y + w k.toNatClampNeg * fy h) m) u c m := if_pos q
theorem ordI_congr {F F' : Int32 → Int64 → Int64} {u : Int32} : ∀ {n : Nat} {m : Int64}, (∀ k m, k < n → F (i32 k) m = F' (i32 k) m) → ordI F u n m = ordI F' u n m
  | 0, _, _ => rfl
  | n + 1, m, h => by
    have ih := ordI_congr (u := u) (n := n) (m := m) (fun k m hk => h k m (Nat.lt_succ_of_lt hk))
    by_cases q : bitF u (i32 n)
    · rw [ordI_yes q, ordI_yes q, ih, h n _ (Nat.lt_succ_self n)]
    · rw [ordI_no q, ordI_no q, ih]
theorem ordC_congr {w fx fy w' fx' fy' : Nat → Int32} {c : Nat} (hc : c ≤ 8) (e : ∀ j, j < c → w j = w' j ∧ fx j = fx' j ∧ fy j = fy' j) : ∀ {d h : Nat} {u x y : Int32} {m : Int64}, ordC w fx fy c d h u x y m = ordC w' fx' fy' c d h u x y m
  | 0, _, _, _, _, _ => rfl
  | d + 1, h, u, x, y, m => by
    by_cases q : h < c
    · rw [ordC_in q, ordC_in q]
      refine ordI_congr (fun k m hk => ?_)
      have ek : (i32 k).toNatClampNeg = k := by
        show (i32 k).toInt.toNat = k
        rw [i32_toInt (by omega)]
        omega
      try dsimp only
      rw [ek, (e k hk).1, (e h q).2.1, (e h q).2.2, ordC_congr hc e]
    · rw [ordC_leaf q, ordC_leaf q]
/-- is there a way to the end? -/
def ordBI (F : Int32 → Bool) (u : Int32) : Nat → Bool
  | 0 => false
  | k + 1 => (decide (bitF u (i32 k)) && F (i32 k)) || ordBI F u k
def ordB (c : Nat) : Nat → Nat → Int32 → Bool
  | 0, _, _ => true
  | d + 1, h, u => if h < c then ordBI (fun k => ordB c d (h + 1) (u ||| ((1 : Int32) <<< (k &&& 31)))) u c else true
theorem ordBI_y {F : Int32 → Bool} {u i : Int32} (hi : 0 ≤ i.toInt) (h : bitF u i) : ordBI F u (i.toInt.toNat + 1) = (F i || ordBI F u i.toInt.toNat) := by
  show ((decide (bitF u (i32 i.toInt.toNat)) && F (i32 i.toInt.toNat)) || ordBI F u i.toInt.toNat) = _
  rw [i32_nat hi, decide_eq_true h, Bool.true_and]
theorem ordBI_n {F : Int32 → Bool} {u i : Int32} (hi : 0 ≤ i.toInt) (h : ¬ bitF u i) : ordBI F u (i.toInt.toNat + 1) = ordBI F u i.toInt.toNat := by
  show ((decide (bitF u (i32 i.toInt.toNat)) && F (i32 i.toInt.toNat)) || ordBI F u i.toInt.toNat) = _
  rw [i32_nat hi, decide_eq_false h, Bool.false_and, Bool.false_or]
theorem ordB_in {c d h : Nat} {u : Int32} (q : h < c) : ordB c (d + 1) h u = ordBI (fun k => ordB c d (h + 1) (u ||| ((1 : Int32) <<< (k &&& 31)))) u c := if_pos q
theorem ordB_1 : ordB 1 8 0 0 = true := by decide +kernel
theorem ordB_2 : ordB 2 8 0 0 = true := by decide +kernel
theorem ordB_3 : ordB 3 8 0 0 = true := by decide +kernel
theorem ordB_4 : ordB 4 8 0 0 = true := by decide +kernel
theorem ordB_5 : ordB 5 8 0 0 = true := by decide +kernel
theorem ordB_6 : ordB 6 8 0 0 = true := by decide +kernel
theorem ordB_7 : ordB 7 8 0 0 = true := by decide +kernel
theorem ordB_8 : ordB 8 8 0 0 = true := by decide +kernel
theorem ordB_all {c : Nat} (h0 : 0 < c) (h8 : c ≤ 8) : ordB c 8 0 0 = true := by
  rcases (by omega : c = 1 ∨ c = 2 ∨ c = 3 ∨ c = 4 ∨ c = 5 ∨ c = 6 ∨ c = 7 ∨ c = 8) with e | e | e | e | e | e | e | e
  · subst e; exact ordB_1
  · subst e; exact ordB_2
  · subst e; exact ordB_3
  · subst e; exact ordB_4
  · subst e; exact ordB_5
  · subst e; exact ordB_6
  · subst e; exact ordB_7
  · subst e; exact ordB_8
/-- the reference's least so far -/
def curR (io : Int32) (os : Int64) : Int64 := if io.toInt = 0 then 9223372036854775807 else os
theorem curR_0 {io : Int32} {os : Int64} (h : io.toInt = 0) : curR io os = 9223372036854775807 := if_pos h
theorem curR_1 {io : Int32} {os : Int64} (h : ¬ io.toInt = 0) : curR io os = os := if_neg h
theorem leafR {io : Int32} {os : Int64} {x y : Int32} (hx : -80000 ≤ x.toInt ∧ x.toInt ≤ 80000) (hy : -80000 ≤ y.toInt ∧ y.toInt ≤ 80000) (h : io.toInt = 0 ∨ (sz x y).toInt < os.toInt) : sz x y = mn6 (sz x y) (curR io os) := by
  have b := sz_b8 hx hy
  have e : (9223372036854775807 : Int64).toInt = 9223372036854775807 := by decide
  by_cases c : io.toInt = 0
  · rw [curR_0 c, mn6_t (by omega)]
  · rw [curR_1 c, mn6_t (by omega)]
theorem cgL_upd {w f g : Nat → Int32} {h : Nat} {v : Int32} : ∀ {n : Nat}, n ≤ h → cgL w f (upd g h v) n = cgL w f g n
  | 0, _ => rfl
  | n + 1, hn => by
    show cgL w f (upd g h v) n + (w (upd g h v n).toNatClampNeg * f n).toInt64 = cgL w f g n + (w (g n).toNatClampNeg * f n).toInt64
    rw [cgL_upd (by omega), upd_off (by omega)]
theorem cgL_congr {w f g g' : Nat → Int32} : ∀ {n : Nat}, (∀ j, j < n → g j = g' j) → cgL w f g n = cgL w f g' n
  | 0, _ => rfl
  | n + 1, h => by
    show cgL w f g n + (w (g n).toNatClampNeg * f n).toInt64 = cgL w f g' n + (w (g' n).toNatClampNeg * f n).toInt64
    rw [cgL_congr (fun j hj => h j (Nat.lt_succ_of_lt hj)), h n (Nat.lt_succ_self n)]
theorem cg_step {w f g g' : Nat → Int32} {h : Nat} {v x : Int32} (e : cgL w f g h = x.toInt64) (eg : ∀ j, j < h → g' j = g j) (hw : 0 ≤ (w v.toNatClampNeg).toInt ∧ (w v.toNatClampNeg).toInt ≤ 99) (hf : -99 ≤ (f h).toInt ∧ (f h).toInt ≤ 99) (hx : -(9801 * (h : Int)) ≤ x.toInt ∧ x.toInt ≤ 9801 * (h : Int)) (h8 : h ≤ 8) : cgL w f (upd g' h v) (h + 1) = (x + w v.toNatClampNeg * f h).toInt64 ∧ -(9801 * ((h + 1 : Nat) : Int)) ≤ (x + w v.toNatClampNeg * f h).toInt ∧ (x + w v.toNatClampNeg * f h).toInt ≤ 9801 * ((h + 1 : Nat) : Int) := by
  have m := wf_b hw hf
  have e1 : (x + w v.toNatClampNeg * f h).toInt = x.toInt + (w v.toNatClampNeg).toInt * (f h).toInt := tI_add rfl m.1 (by omega)
  have e2 : (x.toInt64 + (w v.toNatClampNeg * f h).toInt64).toInt = x.toInt + (w v.toNatClampNeg).toInt * (f h).toInt := tJ_add (Int32.toInt_toInt64 _) ((Int32.toInt_toInt64 _).trans m.1) (by omega)
  refine ⟨?_, by omega⟩
  show cgL w f (upd g' h v) h + (w (upd g' h v h).toNatClampNeg * f h).toInt64 = _
  rw [cgL_upd (Nat.le_refl h), upd_at, cgL_congr eg, e]
  exact Int64.toInt_inj.mp ((e2.trans e1.symm).trans (Int32.toInt_toInt64 _).symm)
def mOrd (w fx fy : Nat → Int32) (c h : Int) : Int64 := if 0 < c ∧ c ≤ h then ordC w fx fy c.toNat 8 0 0 0 0 9223372036854775807 else -1
theorem mOrd_no {w fx fy : Nat → Int32} {c h : Int} (q : ¬ (0 < c ∧ c ≤ h)) : mOrd w fx fy c h = -1 := if_neg q
theorem mOrd_yes {w fx fy : Nat → Int32} {c h : Int} (q : 0 < c ∧ c ≤ h) : mOrd w fx fy c h = ordC w fx fy c.toNat 8 0 0 0 0 9223372036854775807 := if_pos q
theorem du_X10_copy_4 : decode cX10_copy 4 = .ok (.arraylength, 1) := by decide +kernel
theorem du_X10_copy_5 : decode cX10_copy 5 = .ok (.if_icmp .ge 21, 3) := by decide +kernel
theorem du_X10_copy_26 : decode cX10_copy 26 = .ok (.return_, 1) := by decide +kernel
theorem du_X10_copy_10 : decode cX10_copy 10 = .ok (.arraylength, 1) := by decide +kernel
theorem du_X10_copy_11 : decode cX10_copy 11 = .ok (.if_icmp .ge 15, 3) := by decide +kernel
theorem du_X10_copy_18 : decode cX10_copy 18 = .ok (.iaload, 1) := by decide +kernel
theorem du_X10_copy_19 : decode cX10_copy 19 = .ok (.iastore, 1) := by decide +kernel
theorem du_X10_copy_23 : decode cX10_copy 23 = .ok (.goto (-21), 3) := by decide +kernel
abbrev bu_X10_copy_0_2 : ZB := [(.iconst 0, .int 0), (.istore_n 2, .null)]
theorem ku_X10_copy_0_2 : zchk cX10_copy bu_X10_copy_0_2 0 = true ∧ zpc bu_X10_copy_0_2 0 = 2 := ⟨by decide +kernel, rfl⟩
abbrev bu_X10_copy_2_4 : ZB := [(.iload_n 2, .null), (.aload_n 0, .null)]
theorem ku_X10_copy_2_4 : zchk cX10_copy bu_X10_copy_2_4 2 = true ∧ zpc bu_X10_copy_2_4 2 = 4 := ⟨by decide +kernel, rfl⟩
abbrev bu_X10_copy_8_10 : ZB := [(.iload_n 2, .null), (.aload_n 1, .null)]
theorem ku_X10_copy_8_10 : zchk cX10_copy bu_X10_copy_8_10 8 = true ∧ zpc bu_X10_copy_8_10 8 = 10 := ⟨by decide +kernel, rfl⟩
abbrev bu_X10_copy_14_18 : ZB := [(.aload_n 1, .null), (.iload_n 2, .null), (.aload_n 0, .null), (.iload_n 2, .null)]
theorem ku_X10_copy_14_18 : zchk cX10_copy bu_X10_copy_14_18 14 = true ∧ zpc bu_X10_copy_14_18 14 = 18 := ⟨by decide +kernel, rfl⟩
abbrev bu_X10_copy_20_23 : ZB := [(.iinc 2 1, .int 1)]
theorem ku_X10_copy_20_23 : zchk cX10_copy bu_X10_copy_20_23 20 = true ∧ zpc bu_X10_copy_20_23 20 = 23 := ⟨by decide +kernel, rfl⟩
set_option maxHeartbeats 4000000 in
set_option maxRecDepth 100000 in
theorem cu_X10_copyO (l : Launch) (G : KG) (ff : Nat) (tt : Nat) (f : Nat → Int32) (g : Nat → Int32) : Ct l G yX10_copy cX10_copy 3 none { frames := 0, cells := 0, slots := 0, locals := 0 } [.ref ff, .ref tt] [(ff, aI G 8 f), (tt, aI G 8 g)] (fun r w1 => ∃ (g2 : Nat → Int32), r = none ∧ w1 = [(ff, aI G 8 f), (tt, aI G 8 g2)]) := by
  refine ct_of [(0, .ref ff), (1, .ref tt)] (by decide) (Nat.le_of_ble_eq_true rfl) rfl ?_
  intro p0 e0 s0 m0 args0 below0 meth0 c0 A X
  refine z_run X bu_X10_copy_0_2 ku_X10_copy_0_2 (lv' := [(2, .int 0), (0, .ref ff), (1, .ref tt)]) (st' := []) rfl ?_
  refine zloop (σ := Int32 × (Nat → Int32)) (fun z => [(2, .int z.1), (0, .ref ff), (1, .ref tt)]) (fun z => []) (fun z => [(ff, aI G 8 f), (tt, aI G 8 z.2)]) (fun z => (0 ≤ z.1.toInt ∧ z.1.toInt ≤ 8)) (fun z => (8 - z.1.toInt).toNat) (0, g) ?_ ?_
  ·
    rintro ⟨i_, g1⟩ hi ih2
    dsimp only at *
    refine z_run X bu_X10_copy_2_4 ku_X10_copy_2_4 (lv' := [(2, .int i_), (0, .ref ff), (1, .ref tt)]) (st' := [.ref ff, .int i_]) rfl ?_
    refine z_alen X du_X10_copy_4 0 0 rfl rfl (v := 8) rfl ?_
    refine zc_ge X du_X10_copy_5 (tgt := 26) (by decide) (a := i_.toInt) (b := 8) rfl (show (8 : Int32).toInt = 8 from by decide) (fun c5_1 => ?_) (fun c5_1 => ?_)
    ·
      exact z_vret X rfl du_X10_copy_26 (Nat.le_of_ble_eq_true rfl) (Nat.le_of_ble_eq_true rfl) ⟨g1, rfl, rfl⟩
    ·
      refine z_run X bu_X10_copy_8_10 ku_X10_copy_8_10 (lv' := [(2, .int i_), (0, .ref ff), (1, .ref tt)]) (st' := [.ref tt, .int i_]) rfl ?_
      refine z_alen X du_X10_copy_10 1 0 rfl rfl (v := 8) rfl ?_
      refine zc_ge X du_X10_copy_11 (tgt := 26) (by decide) (a := i_.toInt) (b := 8) rfl (show (8 : Int32).toInt = 8 from by decide) (fun c11_2n => absurd c11_2n (by omega)) (fun c11_2 => ?_)
      refine z_run X bu_X10_copy_14_18 ku_X10_copy_14_18 (lv' := [(2, .int i_), (0, .ref ff), (1, .ref tt)]) (st' := [.int i_, .ref ff, .int i_, .ref tt]) rfl ?_
      refine z_iald X du_X10_copy_18 0 rfl (vin rfl (by omega) (by omega)) (v := (f i_.toNatClampNeg)) rfl ?_
      refine z_iast X du_X10_copy_19 1 rfl (vin rfl (by omega) (by omega)) (ws' := [(ff, aI G 8 f), (tt, aI G 8 (upd g1 i_.toNatClampNeg (f i_.toNatClampNeg)))]) rfl ?_
      refine z_run X bu_X10_copy_20_23 ku_X10_copy_20_23 (lv' := [(2, .int (i_ + 1)), (0, .ref ff), (1, .ref tt)]) (st' := []) rfl ?_
      refine z_goto X du_X10_copy_23 (tgt := 2) (by decide) ?_
      exact ih2 ((i_ + 1), (upd g1 i_.toNatClampNeg (f i_.toNatClampNeg))) (by dsimp only; have e : (i_ + 1).toInt = i_.toInt + 1 := tI_add rfl (show (1 : Int32).toInt = 1 from by decide) (by omega); omega) (by dsimp only; have e : (i_ + 1).toInt = i_.toInt + 1 := tI_add rfl (show (1 : Int32).toInt = 1 from by decide) (by omega); omega)
  · exact (by dsimp only; have e0 : (0 : Int32).toInt = 0 := (by decide); omega)

theorem du_X0_seatFrom_2 : decode cX0_seatFrom 2 = .ok (.getfield 28, 3) := by decide +kernel
theorem du_X0_seatFrom_5 : decode cX0_seatFrom 5 = .ok (.if_icmp .lt 42, 3) := by decide +kernel
theorem du_X0_seatFrom_14 : decode cX0_seatFrom 14 = .ok (.invokestatic 49, 3) := by decide +kernel
theorem du_X0_seatFrom_22 : decode cX0_seatFrom 22 = .ok (.getfield 41, 3) := by decide +kernel
theorem du_X0_seatFrom_25 : decode cX0_seatFrom 25 = .ok (.lcmp, 1) := by decide +kernel
theorem du_X0_seatFrom_26 : decode cX0_seatFrom 26 = .ok (.ifCond .ge 20, 3) := by decide +kernel
theorem du_X0_seatFrom_46 : decode cX0_seatFrom 46 = .ok (.return_, 1) := by decide +kernel
theorem du_X0_seatFrom_32 : decode cX0_seatFrom 32 = .ok (.putfield 41, 3) := by decide +kernel
theorem du_X0_seatFrom_36 : decode cX0_seatFrom 36 = .ok (.getfield 15, 3) := by decide +kernel
theorem du_X0_seatFrom_40 : decode cX0_seatFrom 40 = .ok (.getfield 18, 3) := by decide +kernel
theorem du_X0_seatFrom_43 : decode cX0_seatFrom 43 = .ok (.invokestatic 53, 3) := by decide +kernel
abbrev bu_X0_seatFrom_0_2 : ZB := [(.iload_n 2, .null), (.aload_n 0, .null)]
theorem ku_X0_seatFrom_0_2 : zchk cX0_seatFrom bu_X0_seatFrom_0_2 0 = true ∧ zpc bu_X0_seatFrom_0_2 0 = 2 := ⟨by decide +kernel, rfl⟩
abbrev bu_X0_seatFrom_8_14 : ZB := [(.iload 4, .null), (.i2l, .null), (.iload 5, .null), (.i2l, .null)]
theorem ku_X0_seatFrom_8_14 : zchk cX0_seatFrom bu_X0_seatFrom_8_14 8 = true ∧ zpc bu_X0_seatFrom_8_14 8 = 14 := ⟨by decide +kernel, rfl⟩
abbrev bu_X0_seatFrom_17_22 : ZB := [(.lstore 6, .null), (.lload 6, .null), (.aload_n 0, .null)]
theorem ku_X0_seatFrom_17_22 : zchk cX0_seatFrom bu_X0_seatFrom_17_22 17 = true ∧ zpc bu_X0_seatFrom_17_22 17 = 22 := ⟨by decide +kernel, rfl⟩
abbrev bu_X0_seatFrom_29_32 : ZB := [(.aload_n 0, .null), (.lload 6, .null)]
theorem ku_X0_seatFrom_29_32 : zchk cX0_seatFrom bu_X0_seatFrom_29_32 29 = true ∧ zpc bu_X0_seatFrom_29_32 29 = 32 := ⟨by decide +kernel, rfl⟩
abbrev bu_X0_seatFrom_35_36 : ZB := [(.aload_n 0, .null)]
theorem ku_X0_seatFrom_35_36 : zchk cX0_seatFrom bu_X0_seatFrom_35_36 35 = true ∧ zpc bu_X0_seatFrom_35_36 35 = 36 := ⟨by decide +kernel, rfl⟩
abbrev bu_X0_seatFrom_39_40 : ZB := [(.aload_n 0, .null)]
theorem ku_X0_seatFrom_39_40 : zchk cX0_seatFrom bu_X0_seatFrom_39_40 39 = true ∧ zpc bu_X0_seatFrom_39_40 39 = 40 := ⟨by decide +kernel, rfl⟩
set_option maxHeartbeats 4000000 in
set_option maxRecDepth 100000 in
theorem cu_X0_seatFrom8 (l : Launch) (G : KG) (wheel : Nat) (cc : Int32) (kw : Nat) (ks : Nat) (kb : Nat) (wX4 : Value) (wX5 : Value) (lq : Int64) (fw : Nat → Int32) (fs : Nat → Int32) (fb : Nat → Int32) (ring : Nat) (hc : Int32) (g_rp : Value) (rx : Nat) (ry : Nat) (g_rr : Value) (g_rh : Value) (g_rd : Value) (g_ph : Value) (g_po : Value) (fx : Nat → Int32) (fy : Nat → Int32) (uq : Int32) (xq : Int32) (yq : Int32) (cci : Int) (hcc : cc.toInt = cci) (hcb : 0 ≤ cci ∧ cci ≤ 8) : Ct l G yX0_seatFrom cX0_seatFrom 8 none { frames := 1, cells := 0, slots := 0, locals := 23 } [.ref wheel, .ref ring, .int 8, .int uq, .int xq, .int yq] [(wheel, ob 0 [.int cc, .ref kw, .ref ks, .ref kb, wX4, wX5, .long lq]), (kw, aI G 8 fw), (ks, aI G 8 fs), (kb, aI G 8 fb), (ring, ob 5 [.int hc, g_rp, .ref rx, .ref ry, g_rr, g_rh, g_rd, g_ph, g_po]), (rx, aI G 16 fx), (ry, aI G 16 fy)] (fun r w1 => ∃ (lq2 : Int64), ∃ (g2 : Nat → Int32), ∃ (b2 : Nat → Int32), (lq2 = ordC fw fx fy cci.toNat 0 8 uq xq yq lq) ∧ r = none ∧ w1 = [(wheel, ob 0 [.int cc, .ref kw, .ref ks, .ref kb, wX4, wX5, .long lq2]), (kw, aI G 8 fw), (ks, aI G 8 g2), (kb, aI G 8 b2), (ring, ob 5 [.int hc, g_rp, .ref rx, .ref ry, g_rr, g_rh, g_rd, g_ph, g_po]), (rx, aI G 16 fx), (ry, aI G 16 fy)]) := by
  refine ct_of [(0, .ref wheel), (1, .ref ring), (2, .int 8), (3, .int uq), (4, .int xq), (5, .int yq)] (by decide) (Nat.le_of_ble_eq_true rfl) rfl ?_
  intro p0 e0 s0 m0 args0 below0 meth0 c0 A X
  refine z_run X bu_X0_seatFrom_0_2 ku_X0_seatFrom_0_2 (lv' := [(0, .ref wheel), (1, .ref ring), (2, .int 8), (3, .int uq), (4, .int xq), (5, .int yq)]) (st' := [.ref wheel, .int 8]) rfl ?_
  refine z_get X fl_0_28 du_X0_seatFrom_2 0 rfl (v := .int cc) rfl ?_
  refine zc_lt X du_X0_seatFrom_5 (tgt := 47) (by decide) (a := 8) (b := cci) (show (8 : Int32).toInt = 8 from by decide) hcc (fun c5_1n => absurd c5_1n (by omega)) (fun c5_1 => ?_)
  refine z_run X bu_X0_seatFrom_8_14 ku_X0_seatFrom_8_14 (lv' := [(0, .ref wheel), (1, .ref ring), (2, .int 8), (3, .int uq), (4, .int xq), (5, .int yq)]) (st' := [.long yq.toInt64, .long xq.toInt64]) rfl ?_
  refine z_callSN X k_0_49 (cg_X10_sizeOf l G xq.toInt64 yq.toInt64) du_X0_seatFrom_14 ⟨Nat.le_of_ble_eq_true rfl, Nat.le_of_ble_eq_true rfl⟩ ⟨Nat.le_of_ble_eq_true rfl, Nat.le_of_ble_eq_true rfl⟩ rfl (rest := []) (As := [.long xq.toInt64, .long yq.toInt64]) rfl (Nat.le_of_ble_eq_true rfl) [] [0, 1, 2, 3, 4, 5, 6] rfl (by decide) (wr := [(wheel, ob 0 [.int cc, .ref kw, .ref ks, .ref kb, wX4, wX5, .long lq]), (kw, aI G 8 fw), (ks, aI G 8 fs), (kb, aI G 8 fb), (ring, ob 5 [.int hc, g_rp, .ref rx, .ref ry, g_rr, g_rh, g_rd, g_ph, g_po]), (rx, aI G 16 fx), (ry, aI G 16 fy)]) rfl (by decide) (by decide) ?_
  rintro _ _ ⟨rz_2, f14_3, rfl, rfl⟩
  refine Z.at (pc' := 17) (st' := [.long rz_2]) (ws' := [(wheel, ob 0 [.int cc, .ref kw, .ref ks, .ref kb, wX4, wX5, .long lq]), (kw, aI G 8 fw), (ks, aI G 8 fs), (kb, aI G 8 fb), (ring, ob 5 [.int hc, g_rp, .ref rx, .ref ry, g_rr, g_rh, g_rd, g_ph, g_po]), (rx, aI G 16 fx), (ry, aI G 16 fy)]) (kc' := 0) (ks' := 0) rfl rfl rfl rfl rfl ?_
  refine z_run X bu_X0_seatFrom_17_22 ku_X0_seatFrom_17_22 (lv' := [(6, .long rz_2), (0, .ref wheel), (1, .ref ring), (2, .int 8), (3, .int uq), (4, .int xq), (5, .int yq)]) (st' := [.ref wheel, .long rz_2]) rfl ?_
  refine z_get X fl_0_41 du_X0_seatFrom_22 0 rfl (v := .long lq) rfl ?_
  refine zl_ge X du_X0_seatFrom_25 du_X0_seatFrom_26 (tgt := 46) (by decide) (a := rz_2.toInt) (b := lq.toInt) rfl rfl (fun c25_4 => ?_) (fun c25_4 => ?_)
  ·
    exact z_vret X rfl du_X0_seatFrom_46 (Nat.le_of_ble_eq_true rfl) (Nat.le_of_ble_eq_true rfl) ⟨lq, fs, fb, (by rw [(ordC_leaf (show ¬ 8 < cci.toNat by omega))]; exact (mn6_f (by have z := congrArg Int64.toInt f14_3; unfold sz; omega)).symm), rfl, rfl⟩
  ·
    refine z_run X bu_X0_seatFrom_29_32 ku_X0_seatFrom_29_32 (lv' := [(6, .long rz_2), (0, .ref wheel), (1, .ref ring), (2, .int 8), (3, .int uq), (4, .int xq), (5, .int yq)]) (st' := [.long rz_2, .ref wheel]) rfl ?_
    refine z_put X fl_0_41 du_X0_seatFrom_32 0 rfl (ty := .long) (T := TX0) (N := 7) rfl (Or.inl rfl) (by decide +kernel) rfl (by rfl) (Nat.le_of_ble_eq_true rfl) (ws' := [(wheel, ob 0 [.int cc, .ref kw, .ref ks, .ref kb, wX4, wX5, .long rz_2]), (kw, aI G 8 fw), (ks, aI G 8 fs), (kb, aI G 8 fb), (ring, ob 5 [.int hc, g_rp, .ref rx, .ref ry, g_rr, g_rh, g_rd, g_ph, g_po]), (rx, aI G 16 fx), (ry, aI G 16 fy)]) rfl ?_
    refine z_run X bu_X0_seatFrom_35_36 ku_X0_seatFrom_35_36 (lv' := [(6, .long rz_2), (0, .ref wheel), (1, .ref ring), (2, .int 8), (3, .int uq), (4, .int xq), (5, .int yq)]) (st' := [.ref wheel]) rfl ?_
    refine z_get X fl_0_15 du_X0_seatFrom_36 0 rfl (v := .ref ks) rfl ?_
    refine z_run X bu_X0_seatFrom_39_40 ku_X0_seatFrom_39_40 (lv' := [(6, .long rz_2), (0, .ref wheel), (1, .ref ring), (2, .int 8), (3, .int uq), (4, .int xq), (5, .int yq)]) (st' := [.ref wheel, .ref ks]) rfl ?_
    refine z_get X fl_0_18 du_X0_seatFrom_40 0 rfl (v := .ref kb) rfl ?_
    refine z_callSN X k_0_53 (cu_X10_copyO l G ks kb fs fb) du_X0_seatFrom_43 ⟨Nat.le_of_ble_eq_true rfl, Nat.le_of_ble_eq_true rfl⟩ ⟨Nat.le_of_ble_eq_true rfl, Nat.le_of_ble_eq_true rfl⟩ rfl (rest := []) (As := [.ref ks, .ref kb]) rfl (Nat.le_of_ble_eq_true rfl) [2, 3] [0, 1, 4, 5, 6] rfl (by decide) (wr := [(wheel, ob 0 [.int cc, .ref kw, .ref ks, .ref kb, wX4, wX5, .long rz_2]), (kw, aI G 8 fw), (ring, ob 5 [.int hc, g_rp, .ref rx, .ref ry, g_rr, g_rh, g_rd, g_ph, g_po]), (rx, aI G 16 fx), (ry, aI G 16 fy)]) rfl (by decide) (by decide) ?_
    rintro _ _ ⟨g2_5, rfl, rfl⟩
    refine Z.at (pc' := 46) (st' := []) (ws' := [(wheel, ob 0 [.int cc, .ref kw, .ref ks, .ref kb, wX4, wX5, .long rz_2]), (kw, aI G 8 fw), (ring, ob 5 [.int hc, g_rp, .ref rx, .ref ry, g_rr, g_rh, g_rd, g_ph, g_po]), (rx, aI G 16 fx), (ry, aI G 16 fy), (ks, aI G 8 fs), (kb, aI G 8 g2_5)]) (kc' := 0) (ks' := 0) rfl rfl rfl rfl rfl ?_
    refine Z.sub (lv' := []) [] rfl [0, 1, 5, 6, 2, 3, 4] (ws' := [(wheel, ob 0 [.int cc, .ref kw, .ref ks, .ref kb, wX4, wX5, .long rz_2]), (kw, aI G 8 fw), (ks, aI G 8 fs), (kb, aI G 8 g2_5), (ring, ob 5 [.int hc, g_rp, .ref rx, .ref ry, g_rr, g_rh, g_rd, g_ph, g_po]), (rx, aI G 16 fx), (ry, aI G 16 fy)]) rfl (by decide) ?_
    exact z_vret X rfl du_X0_seatFrom_46 (Nat.le_of_ble_eq_true rfl) (Nat.le_of_ble_eq_true rfl) ⟨rz_2, fs, g2_5, (by rw [(ordC_leaf (show ¬ 8 < cci.toNat by omega)), f14_3]; exact (mn6_t (show (sz xq yq).toInt < lq.toInt from (by have z : rz_2.toInt = (sz xq yq).toInt := congrArg Int64.toInt f14_3; omega))).symm), rfl, rfl⟩

theorem du_X0_seatFrom_53 : decode cX0_seatFrom 53 = .ok (.getfield 28, 3) := by decide +kernel
theorem du_X0_seatFrom_56 : decode cX0_seatFrom 56 = .ok (.if_icmp .ge 74, 3) := by decide +kernel
theorem du_X0_seatFrom_130 : decode cX0_seatFrom 130 = .ok (.return_, 1) := by decide +kernel
theorem du_X0_seatFrom_65 : decode cX0_seatFrom 65 = .ok (.ifCond .ne 59, 3) := by decide +kernel
theorem du_X0_seatFrom_127 : decode cX0_seatFrom 127 = .ok (.goto (-77), 3) := by decide +kernel
theorem du_X0_seatFrom_69 : decode cX0_seatFrom 69 = .ok (.getfield 15, 3) := by decide +kernel
theorem du_X0_seatFrom_75 : decode cX0_seatFrom 75 = .ok (.iastore, 1) := by decide +kernel
theorem du_X0_seatFrom_90 : decode cX0_seatFrom 90 = .ok (.getfield 9, 3) := by decide +kernel
theorem du_X0_seatFrom_95 : decode cX0_seatFrom 95 = .ok (.iaload, 1) := by decide +kernel
theorem du_X0_seatFrom_97 : decode cX0_seatFrom 97 = .ok (.getfield 31, 3) := by decide +kernel
theorem du_X0_seatFrom_101 : decode cX0_seatFrom 101 = .ok (.iaload, 1) := by decide +kernel
theorem du_X0_seatFrom_107 : decode cX0_seatFrom 107 = .ok (.getfield 9, 3) := by decide +kernel
theorem du_X0_seatFrom_112 : decode cX0_seatFrom 112 = .ok (.iaload, 1) := by decide +kernel
theorem du_X0_seatFrom_114 : decode cX0_seatFrom 114 = .ok (.getfield 35, 3) := by decide +kernel
theorem du_X0_seatFrom_118 : decode cX0_seatFrom 118 = .ok (.iaload, 1) := by decide +kernel
theorem du_X0_seatFrom_121 : decode cX0_seatFrom 121 = .ok (.invokevirtual 45, 3) := by decide +kernel
abbrev bu_X0_seatFrom_47_50 : ZB := [(.iconst 0, .int 0), (.istore 6, .null)]
theorem ku_X0_seatFrom_47_50 : zchk cX0_seatFrom bu_X0_seatFrom_47_50 47 = true ∧ zpc bu_X0_seatFrom_47_50 47 = 50 := ⟨by decide +kernel, rfl⟩
abbrev bu_X0_seatFrom_50_53 : ZB := [(.iload 6, .null), (.aload_n 0, .null)]
theorem ku_X0_seatFrom_50_53 : zchk cX0_seatFrom bu_X0_seatFrom_50_53 50 = true ∧ zpc bu_X0_seatFrom_50_53 50 = 53 := ⟨by decide +kernel, rfl⟩
abbrev bu_X0_seatFrom_59_65 : ZB := [(.iload_n 3, .null), (.iload 6, .null), (.ishr, .null), (.iconst 1, .int 1), (.iand, .null)]
theorem ku_X0_seatFrom_59_65 : zchk cX0_seatFrom bu_X0_seatFrom_59_65 59 = true ∧ zpc bu_X0_seatFrom_59_65 59 = 65 := ⟨by decide +kernel, rfl⟩
abbrev bu_X0_seatFrom_124_127 : ZB := [(.iinc 6 1, .int 1)]
theorem ku_X0_seatFrom_124_127 : zchk cX0_seatFrom bu_X0_seatFrom_124_127 124 = true ∧ zpc bu_X0_seatFrom_124_127 124 = 127 := ⟨by decide +kernel, rfl⟩
abbrev bu_X0_seatFrom_68_69 : ZB := [(.aload_n 0, .null)]
theorem ku_X0_seatFrom_68_69 : zchk cX0_seatFrom bu_X0_seatFrom_68_69 68 = true ∧ zpc bu_X0_seatFrom_68_69 68 = 69 := ⟨by decide +kernel, rfl⟩
abbrev bu_X0_seatFrom_72_75 : ZB := [(.iload_n 2, .null), (.iload 6, .null)]
theorem ku_X0_seatFrom_72_75 : zchk cX0_seatFrom bu_X0_seatFrom_72_75 72 = true ∧ zpc bu_X0_seatFrom_72_75 72 = 75 := ⟨by decide +kernel, rfl⟩
abbrev bu_X0_seatFrom_76_90 : ZB := [(.aload_n 0, .null), (.aload_n 1, .null), (.iload_n 2, .null), (.iconst 1, .int 1), (.iadd, .null), (.iload_n 3, .null), (.iconst 1, .int 1), (.iload 6, .null), (.ishl, .null), (.ior, .null), (.iload 4, .null), (.aload_n 0, .null)]
theorem ku_X0_seatFrom_76_90 : zchk cX0_seatFrom bu_X0_seatFrom_76_90 76 = true ∧ zpc bu_X0_seatFrom_76_90 76 = 90 := ⟨by decide +kernel, rfl⟩
abbrev bu_X0_seatFrom_93_95 : ZB := [(.iload 6, .null)]
theorem ku_X0_seatFrom_93_95 : zchk cX0_seatFrom bu_X0_seatFrom_93_95 93 = true ∧ zpc bu_X0_seatFrom_93_95 93 = 95 := ⟨by decide +kernel, rfl⟩
abbrev bu_X0_seatFrom_96_97 : ZB := [(.aload_n 1, .null)]
theorem ku_X0_seatFrom_96_97 : zchk cX0_seatFrom bu_X0_seatFrom_96_97 96 = true ∧ zpc bu_X0_seatFrom_96_97 96 = 97 := ⟨by decide +kernel, rfl⟩
abbrev bu_X0_seatFrom_100_101 : ZB := [(.iload_n 2, .null)]
theorem ku_X0_seatFrom_100_101 : zchk cX0_seatFrom bu_X0_seatFrom_100_101 100 = true ∧ zpc bu_X0_seatFrom_100_101 100 = 101 := ⟨by decide +kernel, rfl⟩
abbrev bu_X0_seatFrom_102_107 : ZB := [(.imul, .null), (.iadd, .null), (.iload 5, .null), (.aload_n 0, .null)]
theorem ku_X0_seatFrom_102_107 : zchk cX0_seatFrom bu_X0_seatFrom_102_107 102 = true ∧ zpc bu_X0_seatFrom_102_107 102 = 107 := ⟨by decide +kernel, rfl⟩
abbrev bu_X0_seatFrom_110_112 : ZB := [(.iload 6, .null)]
theorem ku_X0_seatFrom_110_112 : zchk cX0_seatFrom bu_X0_seatFrom_110_112 110 = true ∧ zpc bu_X0_seatFrom_110_112 110 = 112 := ⟨by decide +kernel, rfl⟩
abbrev bu_X0_seatFrom_113_114 : ZB := [(.aload_n 1, .null)]
theorem ku_X0_seatFrom_113_114 : zchk cX0_seatFrom bu_X0_seatFrom_113_114 113 = true ∧ zpc bu_X0_seatFrom_113_114 113 = 114 := ⟨by decide +kernel, rfl⟩
abbrev bu_X0_seatFrom_117_118 : ZB := [(.iload_n 2, .null)]
theorem ku_X0_seatFrom_117_118 : zchk cX0_seatFrom bu_X0_seatFrom_117_118 117 = true ∧ zpc bu_X0_seatFrom_117_118 117 = 118 := ⟨by decide +kernel, rfl⟩
abbrev bu_X0_seatFrom_119_121 : ZB := [(.imul, .null), (.iadd, .null)]
theorem ku_X0_seatFrom_119_121 : zchk cX0_seatFrom bu_X0_seatFrom_119_121 119 = true ∧ zpc bu_X0_seatFrom_119_121 119 = 121 := ⟨by decide +kernel, rfl⟩
set_option maxHeartbeats 4000000 in
set_option maxRecDepth 100000 in
theorem cu_X0_seatFrom7 (l : Launch) (G : KG) (wheel : Nat) (cc : Int32) (kw : Nat) (ks : Nat) (kb : Nat) (wX4 : Value) (wX5 : Value) (lq : Int64) (fw : Nat → Int32) (fs : Nat → Int32) (fb : Nat → Int32) (ring : Nat) (hc : Int32) (g_rp : Value) (rx : Nat) (ry : Nat) (g_rr : Value) (g_rh : Value) (g_rd : Value) (g_ph : Value) (g_po : Value) (fx : Nat → Int32) (fy : Nat → Int32) (uq : Int32) (xq : Int32) (yq : Int32) (cci : Int) (hcc : cc.toInt = cci) (hcb : 0 ≤ cci ∧ cci ≤ 8) : Ct l G yX0_seatFrom cX0_seatFrom 8 none { frames := 2, cells := 0, slots := 0, locals := 50 } [.ref wheel, .ref ring, .int 7, .int uq, .int xq, .int yq] [(wheel, ob 0 [.int cc, .ref kw, .ref ks, .ref kb, wX4, wX5, .long lq]), (kw, aI G 8 fw), (ks, aI G 8 fs), (kb, aI G 8 fb), (ring, ob 5 [.int hc, g_rp, .ref rx, .ref ry, g_rr, g_rh, g_rd, g_ph, g_po]), (rx, aI G 16 fx), (ry, aI G 16 fy)] (fun r w1 => ∃ (lq2 : Int64), ∃ (g2 : Nat → Int32), ∃ (b2 : Nat → Int32), (lq2 = ordC fw fx fy cci.toNat 1 7 uq xq yq lq) ∧ r = none ∧ w1 = [(wheel, ob 0 [.int cc, .ref kw, .ref ks, .ref kb, wX4, wX5, .long lq2]), (kw, aI G 8 fw), (ks, aI G 8 g2), (kb, aI G 8 b2), (ring, ob 5 [.int hc, g_rp, .ref rx, .ref ry, g_rr, g_rh, g_rd, g_ph, g_po]), (rx, aI G 16 fx), (ry, aI G 16 fy)]) := by
  refine ct_of [(0, .ref wheel), (1, .ref ring), (2, .int 7), (3, .int uq), (4, .int xq), (5, .int yq)] (by decide) (Nat.le_of_ble_eq_true rfl) rfl ?_
  intro p0 e0 s0 m0 args0 below0 meth0 c0 A X
  refine z_run X bu_X0_seatFrom_0_2 ku_X0_seatFrom_0_2 (lv' := [(0, .ref wheel), (1, .ref ring), (2, .int 7), (3, .int uq), (4, .int xq), (5, .int yq)]) (st' := [.ref wheel, .int 7]) rfl ?_
  refine z_get X fl_0_28 du_X0_seatFrom_2 0 rfl (v := .int cc) rfl ?_
  refine zc_lt X du_X0_seatFrom_5 (tgt := 47) (by decide) (a := 7) (b := cci) (show (7 : Int32).toInt = 7 from by decide) hcc (fun c5_1 => ?_) (fun c5_1 => ?_)
  ·
    refine z_run X bu_X0_seatFrom_47_50 ku_X0_seatFrom_47_50 (lv' := [(6, .int 0), (0, .ref wheel), (1, .ref ring), (2, .int 7), (3, .int uq), (4, .int xq), (5, .int yq)]) (st' := []) rfl ?_
    refine zloop (σ := Int32 × Int64 × (Nat → Int32) × (Nat → Int32)) (fun z => [(6, .int z.1), (0, .ref wheel), (1, .ref ring), (2, .int 7), (3, .int uq), (4, .int xq), (5, .int yq)]) (fun z => []) (fun z => [(wheel, ob 0 [.int cc, .ref kw, .ref ks, .ref kb, wX4, wX5, .long z.2.1]), (kw, aI G 8 fw), (ks, aI G 8 z.2.2.1), (kb, aI G 8 z.2.2.2), (ring, ob 5 [.int hc, g_rp, .ref rx, .ref ry, g_rr, g_rh, g_rd, g_ph, g_po]), (rx, aI G 16 fx), (ry, aI G 16 fy)]) (fun z => (0 ≤ z.1.toInt ∧ z.1.toInt ≤ cci) ∧ (z.2.1 = ordI (fun (k : Int32) (m : Int64) => ordC fw fx fy cci.toNat 0 8 (uq ||| ((1 : Int32) <<< (k &&& 31))) (xq + fw k.toNatClampNeg * fx 7) (yq + fw k.toNatClampNeg * fy 7) m) uq z.1.toInt.toNat lq)) (fun z => (cci - z.1.toInt).toNat) (0, lq, fs, fb) ?_ ?_
    ·
      rintro ⟨i_, m_, g, b⟩ ⟨hi, hm⟩ ih50
      dsimp only at *
      refine z_run X bu_X0_seatFrom_50_53 ku_X0_seatFrom_50_53 (lv' := [(6, .int i_), (0, .ref wheel), (1, .ref ring), (2, .int 7), (3, .int uq), (4, .int xq), (5, .int yq)]) (st' := [.ref wheel, .int i_]) rfl ?_
      refine z_get X fl_0_28 du_X0_seatFrom_53 0 rfl (v := .int cc) rfl ?_
      refine zc_ge X du_X0_seatFrom_56 (tgt := 130) (by decide) (a := i_.toInt) (b := cci) rfl hcc (fun c56_2 => ?_) (fun c56_2 => ?_)
      ·
        exact z_vret X rfl du_X0_seatFrom_130 (Nat.le_of_ble_eq_true rfl) (Nat.le_of_ble_eq_true rfl) ⟨m_, g, b, (by rw [ordC_in (show 7 < cci.toNat by omega)]; rw [show i_.toInt.toNat = cci.toNat by omega] at hm; exact hm), rfl, rfl⟩
      ·
        refine z_run X bu_X0_seatFrom_59_65 ku_X0_seatFrom_59_65 (lv' := [(6, .int i_), (0, .ref wheel), (1, .ref ring), (2, .int 7), (3, .int uq), (4, .int xq), (5, .int yq)]) (st' := [.int ((uq >>> (i_ &&& 31)) &&& 1)]) rfl ?_
        refine zi_ne X du_X0_seatFrom_65 (tgt := 124) (by decide) (a := ((uq >>> (i_ &&& 31)) &&& 1).toInt) rfl (fun c65_3 => ?_) (fun c65_3 => ?_)
        ·
          refine z_run X bu_X0_seatFrom_124_127 ku_X0_seatFrom_124_127 (lv' := [(6, .int (i_ + 1)), (0, .ref wheel), (1, .ref ring), (2, .int 7), (3, .int uq), (4, .int xq), (5, .int yq)]) (st' := []) rfl ?_
          refine z_goto X du_X0_seatFrom_127 (tgt := 50) (by decide) ?_
          exact ih50 ((i_ + 1), m_, g, b) ⟨(by dsimp only; have e : (i_ + 1).toInt = i_.toInt + 1 := tI_add rfl (show (1 : Int32).toInt = 1 from by decide) (by omega); omega), (by dsimp only; have e : (i_ + 1).toInt = i_.toInt + 1 := tI_add rfl (show (1 : Int32).toInt = 1 from by decide) (by omega); rw [e, show (i_.toInt + 1).toNat = i_.toInt.toNat + 1 by omega]; exact (ordI_n (by omega) (show ¬ bitF uq i_ by unfold bitF; omega) hm).symm)⟩ (by dsimp only; have e : (i_ + 1).toInt = i_.toInt + 1 := tI_add rfl (show (1 : Int32).toInt = 1 from by decide) (by omega); omega)
        ·
          refine z_run X bu_X0_seatFrom_68_69 ku_X0_seatFrom_68_69 (lv' := [(6, .int i_), (0, .ref wheel), (1, .ref ring), (2, .int 7), (3, .int uq), (4, .int xq), (5, .int yq)]) (st' := [.ref wheel]) rfl ?_
          refine z_get X fl_0_15 du_X0_seatFrom_69 0 rfl (v := .ref ks) rfl ?_
          refine z_run X bu_X0_seatFrom_72_75 ku_X0_seatFrom_72_75 (lv' := [(6, .int i_), (0, .ref wheel), (1, .ref ring), (2, .int 7), (3, .int uq), (4, .int xq), (5, .int yq)]) (st' := [.int i_, .int 7, .ref ks]) rfl ?_
          refine z_iast X du_X0_seatFrom_75 2 rfl (show vp_in _ _ from by unfold vp_in; decide) (ws' := [(wheel, ob 0 [.int cc, .ref kw, .ref ks, .ref kb, wX4, wX5, .long m_]), (kw, aI G 8 fw), (ks, aI G 8 (upd g 7 i_)), (kb, aI G 8 b), (ring, ob 5 [.int hc, g_rp, .ref rx, .ref ry, g_rr, g_rh, g_rd, g_ph, g_po]), (rx, aI G 16 fx), (ry, aI G 16 fy)]) rfl ?_
          refine z_run X bu_X0_seatFrom_76_90 ku_X0_seatFrom_76_90 (lv' := [(6, .int i_), (0, .ref wheel), (1, .ref ring), (2, .int 7), (3, .int uq), (4, .int xq), (5, .int yq)]) (st' := [.ref wheel, .int xq, .int (uq ||| ((1 : Int32) <<< (i_ &&& 31))), .int 8, .ref ring, .ref wheel]) rfl ?_
          refine z_get X fl_0_9 du_X0_seatFrom_90 0 rfl (v := .ref kw) rfl ?_
          refine z_run X bu_X0_seatFrom_93_95 ku_X0_seatFrom_93_95 (lv' := [(6, .int i_), (0, .ref wheel), (1, .ref ring), (2, .int 7), (3, .int uq), (4, .int xq), (5, .int yq)]) (st' := [.int i_, .ref kw, .int xq, .int (uq ||| ((1 : Int32) <<< (i_ &&& 31))), .int 8, .ref ring, .ref wheel]) rfl ?_
          refine z_iald X du_X0_seatFrom_95 1 rfl (vin rfl (by omega) (by omega)) (v := (fw i_.toNatClampNeg)) rfl ?_
          refine z_run X bu_X0_seatFrom_96_97 ku_X0_seatFrom_96_97 (lv' := [(6, .int i_), (0, .ref wheel), (1, .ref ring), (2, .int 7), (3, .int uq), (4, .int xq), (5, .int yq)]) (st' := [.ref ring, .int (fw i_.toNatClampNeg), .int xq, .int (uq ||| ((1 : Int32) <<< (i_ &&& 31))), .int 8, .ref ring, .ref wheel]) rfl ?_
          refine z_getN X fl_0_31 du_X0_seatFrom_97 4 rfl (v := .ref rx) rfl ?_
          refine z_run X bu_X0_seatFrom_100_101 ku_X0_seatFrom_100_101 (lv' := [(6, .int i_), (0, .ref wheel), (1, .ref ring), (2, .int 7), (3, .int uq), (4, .int xq), (5, .int yq)]) (st' := [.int 7, .ref rx, .int (fw i_.toNatClampNeg), .int xq, .int (uq ||| ((1 : Int32) <<< (i_ &&& 31))), .int 8, .ref ring, .ref wheel]) rfl ?_
          refine z_iald X du_X0_seatFrom_101 5 rfl (show vp_in _ _ from by unfold vp_in; decide) (v := (fx (7 : Int32).toNatClampNeg)) rfl ?_
          refine z_run X bu_X0_seatFrom_102_107 ku_X0_seatFrom_102_107 (lv' := [(6, .int i_), (0, .ref wheel), (1, .ref ring), (2, .int 7), (3, .int uq), (4, .int xq), (5, .int yq)]) (st' := [.ref wheel, .int yq, .int (xq + ((fw i_.toNatClampNeg) * (fx (7 : Int32).toNatClampNeg))), .int (uq ||| ((1 : Int32) <<< (i_ &&& 31))), .int 8, .ref ring, .ref wheel]) rfl ?_
          refine z_get X fl_0_9 du_X0_seatFrom_107 0 rfl (v := .ref kw) rfl ?_
          refine z_run X bu_X0_seatFrom_110_112 ku_X0_seatFrom_110_112 (lv' := [(6, .int i_), (0, .ref wheel), (1, .ref ring), (2, .int 7), (3, .int uq), (4, .int xq), (5, .int yq)]) (st' := [.int i_, .ref kw, .int yq, .int (xq + ((fw i_.toNatClampNeg) * (fx (7 : Int32).toNatClampNeg))), .int (uq ||| ((1 : Int32) <<< (i_ &&& 31))), .int 8, .ref ring, .ref wheel]) rfl ?_
          refine z_iald X du_X0_seatFrom_112 1 rfl (vin rfl (by omega) (by omega)) (v := (fw i_.toNatClampNeg)) rfl ?_
          refine z_run X bu_X0_seatFrom_113_114 ku_X0_seatFrom_113_114 (lv' := [(6, .int i_), (0, .ref wheel), (1, .ref ring), (2, .int 7), (3, .int uq), (4, .int xq), (5, .int yq)]) (st' := [.ref ring, .int (fw i_.toNatClampNeg), .int yq, .int (xq + ((fw i_.toNatClampNeg) * (fx (7 : Int32).toNatClampNeg))), .int (uq ||| ((1 : Int32) <<< (i_ &&& 31))), .int 8, .ref ring, .ref wheel]) rfl ?_
          refine z_getN X fl_0_35 du_X0_seatFrom_114 4 rfl (v := .ref ry) rfl ?_
          refine z_run X bu_X0_seatFrom_117_118 ku_X0_seatFrom_117_118 (lv' := [(6, .int i_), (0, .ref wheel), (1, .ref ring), (2, .int 7), (3, .int uq), (4, .int xq), (5, .int yq)]) (st' := [.int 7, .ref ry, .int (fw i_.toNatClampNeg), .int yq, .int (xq + ((fw i_.toNatClampNeg) * (fx (7 : Int32).toNatClampNeg))), .int (uq ||| ((1 : Int32) <<< (i_ &&& 31))), .int 8, .ref ring, .ref wheel]) rfl ?_
          refine z_iald X du_X0_seatFrom_118 6 rfl (show vp_in _ _ from by unfold vp_in; decide) (v := (fy (7 : Int32).toNatClampNeg)) rfl ?_
          refine z_run X bu_X0_seatFrom_119_121 ku_X0_seatFrom_119_121 (lv' := [(6, .int i_), (0, .ref wheel), (1, .ref ring), (2, .int 7), (3, .int uq), (4, .int xq), (5, .int yq)]) (st' := [.int (yq + ((fw i_.toNatClampNeg) * (fy (7 : Int32).toNatClampNeg))), .int (xq + ((fw i_.toNatClampNeg) * (fx (7 : Int32).toNatClampNeg))), .int (uq ||| ((1 : Int32) <<< (i_ &&& 31))), .int 8, .ref ring, .ref wheel]) rfl ?_
          refine z_callV X k_0_45 (cu_X0_seatFrom8 l G wheel cc kw ks kb wX4 wX5 m_ fw (upd g 7 i_) b ring hc g_rp rx ry g_rr g_rh g_rd g_ph g_po fx fy (uq ||| ((1 : Int32) <<< (i_ &&& 31))) (xq + ((fw i_.toNatClampNeg) * (fx (7 : Int32).toNatClampNeg))) (yq + ((fw i_.toNatClampNeg) * (fy (7 : Int32).toNatClampNeg))) cci hcc (by omega)) du_X0_seatFrom_121 0 rfl rfl rfl ⟨Nat.le_of_ble_eq_true rfl, Nat.le_of_ble_eq_true rfl⟩ ⟨Nat.le_of_ble_eq_true rfl, Nat.le_of_ble_eq_true rfl⟩ rfl (rest := []) (As := [.ref ring, .int 8, .int (uq ||| ((1 : Int32) <<< (i_ &&& 31))), .int (xq + ((fw i_.toNatClampNeg) * (fx (7 : Int32).toNatClampNeg))), .int (yq + ((fw i_.toNatClampNeg) * (fy (7 : Int32).toNatClampNeg)))]) rfl (Nat.le_of_ble_eq_true rfl) [0, 1, 2, 3, 4, 5, 6] [] rfl (by decide) (wr := []) rfl (by decide) (by decide) ?_
          rintro _ _ ⟨lq2_4, g2_5, b2_6, f121_7, rfl, rfl⟩
          refine Z.at (pc' := 124) (st' := []) (ws' := [(wheel, ob 0 [.int cc, .ref kw, .ref ks, .ref kb, wX4, wX5, .long lq2_4]), (kw, aI G 8 fw), (ks, aI G 8 g2_5), (kb, aI G 8 b2_6), (ring, ob 5 [.int hc, g_rp, .ref rx, .ref ry, g_rr, g_rh, g_rd, g_ph, g_po]), (rx, aI G 16 fx), (ry, aI G 16 fy)]) (kc' := 0) (ks' := 0) rfl rfl rfl rfl rfl ?_
          rw [show (7 : Int32).toNatClampNeg = 7 from by decide] at f121_7
          refine z_run X bu_X0_seatFrom_124_127 ku_X0_seatFrom_124_127 (lv' := [(6, .int (i_ + 1)), (0, .ref wheel), (1, .ref ring), (2, .int 7), (3, .int uq), (4, .int xq), (5, .int yq)]) (st' := []) rfl ?_
          refine z_goto X du_X0_seatFrom_127 (tgt := 50) (by decide) ?_
          exact ih50 ((i_ + 1), lq2_4, g2_5, b2_6) ⟨(by dsimp only; have e : (i_ + 1).toInt = i_.toInt + 1 := tI_add rfl (show (1 : Int32).toInt = 1 from by decide) (by omega); omega), (by dsimp only; have e : (i_ + 1).toInt = i_.toInt + 1 := tI_add rfl (show (1 : Int32).toInt = 1 from by decide) (by omega); rw [e, show (i_.toInt + 1).toNat = i_.toInt.toNat + 1 by omega]; exact (f121_7).trans (ordI_y (by omega) (show bitF uq i_ by unfold bitF; omega) hm).symm)⟩ (by dsimp only; have e : (i_ + 1).toInt = i_.toInt + 1 := tI_add rfl (show (1 : Int32).toInt = 1 from by decide) (by omega); omega)
    · exact ⟨(by dsimp only; have e0 : (0 : Int32).toInt = 0 := (by decide); omega), (by dsimp only; have e0 : (0 : Int32).toInt = 0 := (by decide); rw [e0]; rfl)⟩
  ·
    refine z_run X bu_X0_seatFrom_8_14 ku_X0_seatFrom_8_14 (lv' := [(0, .ref wheel), (1, .ref ring), (2, .int 7), (3, .int uq), (4, .int xq), (5, .int yq)]) (st' := [.long yq.toInt64, .long xq.toInt64]) rfl ?_
    refine z_callSN X k_0_49 (cg_X10_sizeOf l G xq.toInt64 yq.toInt64) du_X0_seatFrom_14 ⟨Nat.le_of_ble_eq_true rfl, Nat.le_of_ble_eq_true rfl⟩ ⟨Nat.le_of_ble_eq_true rfl, Nat.le_of_ble_eq_true rfl⟩ rfl (rest := []) (As := [.long xq.toInt64, .long yq.toInt64]) rfl (Nat.le_of_ble_eq_true rfl) [] [0, 1, 2, 3, 4, 5, 6] rfl (by decide) (wr := [(wheel, ob 0 [.int cc, .ref kw, .ref ks, .ref kb, wX4, wX5, .long lq]), (kw, aI G 8 fw), (ks, aI G 8 fs), (kb, aI G 8 fb), (ring, ob 5 [.int hc, g_rp, .ref rx, .ref ry, g_rr, g_rh, g_rd, g_ph, g_po]), (rx, aI G 16 fx), (ry, aI G 16 fy)]) rfl (by decide) (by decide) ?_
    rintro _ _ ⟨rz_8, f14_9, rfl, rfl⟩
    refine Z.at (pc' := 17) (st' := [.long rz_8]) (ws' := [(wheel, ob 0 [.int cc, .ref kw, .ref ks, .ref kb, wX4, wX5, .long lq]), (kw, aI G 8 fw), (ks, aI G 8 fs), (kb, aI G 8 fb), (ring, ob 5 [.int hc, g_rp, .ref rx, .ref ry, g_rr, g_rh, g_rd, g_ph, g_po]), (rx, aI G 16 fx), (ry, aI G 16 fy)]) (kc' := 0) (ks' := 0) rfl rfl rfl rfl rfl ?_
    refine z_run X bu_X0_seatFrom_17_22 ku_X0_seatFrom_17_22 (lv' := [(6, .long rz_8), (0, .ref wheel), (1, .ref ring), (2, .int 7), (3, .int uq), (4, .int xq), (5, .int yq)]) (st' := [.ref wheel, .long rz_8]) rfl ?_
    refine z_get X fl_0_41 du_X0_seatFrom_22 0 rfl (v := .long lq) rfl ?_
    refine zl_ge X du_X0_seatFrom_25 du_X0_seatFrom_26 (tgt := 46) (by decide) (a := rz_8.toInt) (b := lq.toInt) rfl rfl (fun c25_10 => ?_) (fun c25_10 => ?_)
    ·
      exact z_vret X rfl du_X0_seatFrom_46 (Nat.le_of_ble_eq_true rfl) (Nat.le_of_ble_eq_true rfl) ⟨lq, fs, fb, (by rw [(ordC_leaf (show ¬ 7 < cci.toNat by omega))]; exact (mn6_f (by have z := congrArg Int64.toInt f14_9; unfold sz; omega)).symm), rfl, rfl⟩
    ·
      refine z_run X bu_X0_seatFrom_29_32 ku_X0_seatFrom_29_32 (lv' := [(6, .long rz_8), (0, .ref wheel), (1, .ref ring), (2, .int 7), (3, .int uq), (4, .int xq), (5, .int yq)]) (st' := [.long rz_8, .ref wheel]) rfl ?_
      refine z_put X fl_0_41 du_X0_seatFrom_32 0 rfl (ty := .long) (T := TX0) (N := 7) rfl (Or.inl rfl) (by decide +kernel) rfl (by rfl) (Nat.le_of_ble_eq_true rfl) (ws' := [(wheel, ob 0 [.int cc, .ref kw, .ref ks, .ref kb, wX4, wX5, .long rz_8]), (kw, aI G 8 fw), (ks, aI G 8 fs), (kb, aI G 8 fb), (ring, ob 5 [.int hc, g_rp, .ref rx, .ref ry, g_rr, g_rh, g_rd, g_ph, g_po]), (rx, aI G 16 fx), (ry, aI G 16 fy)]) rfl ?_
      refine z_run X bu_X0_seatFrom_35_36 ku_X0_seatFrom_35_36 (lv' := [(6, .long rz_8), (0, .ref wheel), (1, .ref ring), (2, .int 7), (3, .int uq), (4, .int xq), (5, .int yq)]) (st' := [.ref wheel]) rfl ?_
      refine z_get X fl_0_15 du_X0_seatFrom_36 0 rfl (v := .ref ks) rfl ?_
      refine z_run X bu_X0_seatFrom_39_40 ku_X0_seatFrom_39_40 (lv' := [(6, .long rz_8), (0, .ref wheel), (1, .ref ring), (2, .int 7), (3, .int uq), (4, .int xq), (5, .int yq)]) (st' := [.ref wheel, .ref ks]) rfl ?_
      refine z_get X fl_0_18 du_X0_seatFrom_40 0 rfl (v := .ref kb) rfl ?_
      refine z_callSN X k_0_53 (cu_X10_copyO l G ks kb fs fb) du_X0_seatFrom_43 ⟨Nat.le_of_ble_eq_true rfl, Nat.le_of_ble_eq_true rfl⟩ ⟨Nat.le_of_ble_eq_true rfl, Nat.le_of_ble_eq_true rfl⟩ rfl (rest := []) (As := [.ref ks, .ref kb]) rfl (Nat.le_of_ble_eq_true rfl) [2, 3] [0, 1, 4, 5, 6] rfl (by decide) (wr := [(wheel, ob 0 [.int cc, .ref kw, .ref ks, .ref kb, wX4, wX5, .long rz_8]), (kw, aI G 8 fw), (ring, ob 5 [.int hc, g_rp, .ref rx, .ref ry, g_rr, g_rh, g_rd, g_ph, g_po]), (rx, aI G 16 fx), (ry, aI G 16 fy)]) rfl (by decide) (by decide) ?_
      rintro _ _ ⟨g2_11, rfl, rfl⟩
      refine Z.at (pc' := 46) (st' := []) (ws' := [(wheel, ob 0 [.int cc, .ref kw, .ref ks, .ref kb, wX4, wX5, .long rz_8]), (kw, aI G 8 fw), (ring, ob 5 [.int hc, g_rp, .ref rx, .ref ry, g_rr, g_rh, g_rd, g_ph, g_po]), (rx, aI G 16 fx), (ry, aI G 16 fy), (ks, aI G 8 fs), (kb, aI G 8 g2_11)]) (kc' := 0) (ks' := 0) rfl rfl rfl rfl rfl ?_
      refine Z.sub (lv' := []) [] rfl [0, 1, 5, 6, 2, 3, 4] (ws' := [(wheel, ob 0 [.int cc, .ref kw, .ref ks, .ref kb, wX4, wX5, .long rz_8]), (kw, aI G 8 fw), (ks, aI G 8 fs), (kb, aI G 8 g2_11), (ring, ob 5 [.int hc, g_rp, .ref rx, .ref ry, g_rr, g_rh, g_rd, g_ph, g_po]), (rx, aI G 16 fx), (ry, aI G 16 fy)]) rfl (by decide) ?_
      exact z_vret X rfl du_X0_seatFrom_46 (Nat.le_of_ble_eq_true rfl) (Nat.le_of_ble_eq_true rfl) ⟨rz_8, fs, g2_11, (by rw [(ordC_leaf (show ¬ 7 < cci.toNat by omega)), f14_9]; exact (mn6_t (show (sz xq yq).toInt < lq.toInt from (by have z : rz_8.toInt = (sz xq yq).toInt := congrArg Int64.toInt f14_9; omega))).symm), rfl, rfl⟩

set_option maxHeartbeats 4000000 in
set_option maxRecDepth 100000 in
theorem cu_X0_seatFrom6 (l : Launch) (G : KG) (wheel : Nat) (cc : Int32) (kw : Nat) (ks : Nat) (kb : Nat) (wX4 : Value) (wX5 : Value) (lq : Int64) (fw : Nat → Int32) (fs : Nat → Int32) (fb : Nat → Int32) (ring : Nat) (hc : Int32) (g_rp : Value) (rx : Nat) (ry : Nat) (g_rr : Value) (g_rh : Value) (g_rd : Value) (g_ph : Value) (g_po : Value) (fx : Nat → Int32) (fy : Nat → Int32) (uq : Int32) (xq : Int32) (yq : Int32) (cci : Int) (hcc : cc.toInt = cci) (hcb : 0 ≤ cci ∧ cci ≤ 8) : Ct l G yX0_seatFrom cX0_seatFrom 8 none { frames := 3, cells := 0, slots := 0, locals := 77 } [.ref wheel, .ref ring, .int 6, .int uq, .int xq, .int yq] [(wheel, ob 0 [.int cc, .ref kw, .ref ks, .ref kb, wX4, wX5, .long lq]), (kw, aI G 8 fw), (ks, aI G 8 fs), (kb, aI G 8 fb), (ring, ob 5 [.int hc, g_rp, .ref rx, .ref ry, g_rr, g_rh, g_rd, g_ph, g_po]), (rx, aI G 16 fx), (ry, aI G 16 fy)] (fun r w1 => ∃ (lq2 : Int64), ∃ (g2 : Nat → Int32), ∃ (b2 : Nat → Int32), (lq2 = ordC fw fx fy cci.toNat 2 6 uq xq yq lq) ∧ r = none ∧ w1 = [(wheel, ob 0 [.int cc, .ref kw, .ref ks, .ref kb, wX4, wX5, .long lq2]), (kw, aI G 8 fw), (ks, aI G 8 g2), (kb, aI G 8 b2), (ring, ob 5 [.int hc, g_rp, .ref rx, .ref ry, g_rr, g_rh, g_rd, g_ph, g_po]), (rx, aI G 16 fx), (ry, aI G 16 fy)]) := by
  refine ct_of [(0, .ref wheel), (1, .ref ring), (2, .int 6), (3, .int uq), (4, .int xq), (5, .int yq)] (by decide) (Nat.le_of_ble_eq_true rfl) rfl ?_
  intro p0 e0 s0 m0 args0 below0 meth0 c0 A X
  refine z_run X bu_X0_seatFrom_0_2 ku_X0_seatFrom_0_2 (lv' := [(0, .ref wheel), (1, .ref ring), (2, .int 6), (3, .int uq), (4, .int xq), (5, .int yq)]) (st' := [.ref wheel, .int 6]) rfl ?_
  refine z_get X fl_0_28 du_X0_seatFrom_2 0 rfl (v := .int cc) rfl ?_
  refine zc_lt X du_X0_seatFrom_5 (tgt := 47) (by decide) (a := 6) (b := cci) (show (6 : Int32).toInt = 6 from by decide) hcc (fun c5_1 => ?_) (fun c5_1 => ?_)
  ·
    refine z_run X bu_X0_seatFrom_47_50 ku_X0_seatFrom_47_50 (lv' := [(6, .int 0), (0, .ref wheel), (1, .ref ring), (2, .int 6), (3, .int uq), (4, .int xq), (5, .int yq)]) (st' := []) rfl ?_
    refine zloop (σ := Int32 × Int64 × (Nat → Int32) × (Nat → Int32)) (fun z => [(6, .int z.1), (0, .ref wheel), (1, .ref ring), (2, .int 6), (3, .int uq), (4, .int xq), (5, .int yq)]) (fun z => []) (fun z => [(wheel, ob 0 [.int cc, .ref kw, .ref ks, .ref kb, wX4, wX5, .long z.2.1]), (kw, aI G 8 fw), (ks, aI G 8 z.2.2.1), (kb, aI G 8 z.2.2.2), (ring, ob 5 [.int hc, g_rp, .ref rx, .ref ry, g_rr, g_rh, g_rd, g_ph, g_po]), (rx, aI G 16 fx), (ry, aI G 16 fy)]) (fun z => (0 ≤ z.1.toInt ∧ z.1.toInt ≤ cci) ∧ (z.2.1 = ordI (fun (k : Int32) (m : Int64) => ordC fw fx fy cci.toNat 1 7 (uq ||| ((1 : Int32) <<< (k &&& 31))) (xq + fw k.toNatClampNeg * fx 6) (yq + fw k.toNatClampNeg * fy 6) m) uq z.1.toInt.toNat lq)) (fun z => (cci - z.1.toInt).toNat) (0, lq, fs, fb) ?_ ?_
    ·
      rintro ⟨i_, m_, g, b⟩ ⟨hi, hm⟩ ih50
      dsimp only at *
      refine z_run X bu_X0_seatFrom_50_53 ku_X0_seatFrom_50_53 (lv' := [(6, .int i_), (0, .ref wheel), (1, .ref ring), (2, .int 6), (3, .int uq), (4, .int xq), (5, .int yq)]) (st' := [.ref wheel, .int i_]) rfl ?_
      refine z_get X fl_0_28 du_X0_seatFrom_53 0 rfl (v := .int cc) rfl ?_
      refine zc_ge X du_X0_seatFrom_56 (tgt := 130) (by decide) (a := i_.toInt) (b := cci) rfl hcc (fun c56_2 => ?_) (fun c56_2 => ?_)
      ·
        exact z_vret X rfl du_X0_seatFrom_130 (Nat.le_of_ble_eq_true rfl) (Nat.le_of_ble_eq_true rfl) ⟨m_, g, b, (by rw [ordC_in (show 6 < cci.toNat by omega)]; rw [show i_.toInt.toNat = cci.toNat by omega] at hm; exact hm), rfl, rfl⟩
      ·
        refine z_run X bu_X0_seatFrom_59_65 ku_X0_seatFrom_59_65 (lv' := [(6, .int i_), (0, .ref wheel), (1, .ref ring), (2, .int 6), (3, .int uq), (4, .int xq), (5, .int yq)]) (st' := [.int ((uq >>> (i_ &&& 31)) &&& 1)]) rfl ?_
        refine zi_ne X du_X0_seatFrom_65 (tgt := 124) (by decide) (a := ((uq >>> (i_ &&& 31)) &&& 1).toInt) rfl (fun c65_3 => ?_) (fun c65_3 => ?_)
        ·
          refine z_run X bu_X0_seatFrom_124_127 ku_X0_seatFrom_124_127 (lv' := [(6, .int (i_ + 1)), (0, .ref wheel), (1, .ref ring), (2, .int 6), (3, .int uq), (4, .int xq), (5, .int yq)]) (st' := []) rfl ?_
          refine z_goto X du_X0_seatFrom_127 (tgt := 50) (by decide) ?_
          exact ih50 ((i_ + 1), m_, g, b) ⟨(by dsimp only; have e : (i_ + 1).toInt = i_.toInt + 1 := tI_add rfl (show (1 : Int32).toInt = 1 from by decide) (by omega); omega), (by dsimp only; have e : (i_ + 1).toInt = i_.toInt + 1 := tI_add rfl (show (1 : Int32).toInt = 1 from by decide) (by omega); rw [e, show (i_.toInt + 1).toNat = i_.toInt.toNat + 1 by omega]; exact (ordI_n (by omega) (show ¬ bitF uq i_ by unfold bitF; omega) hm).symm)⟩ (by dsimp only; have e : (i_ + 1).toInt = i_.toInt + 1 := tI_add rfl (show (1 : Int32).toInt = 1 from by decide) (by omega); omega)
        ·
          refine z_run X bu_X0_seatFrom_68_69 ku_X0_seatFrom_68_69 (lv' := [(6, .int i_), (0, .ref wheel), (1, .ref ring), (2, .int 6), (3, .int uq), (4, .int xq), (5, .int yq)]) (st' := [.ref wheel]) rfl ?_
          refine z_get X fl_0_15 du_X0_seatFrom_69 0 rfl (v := .ref ks) rfl ?_
          refine z_run X bu_X0_seatFrom_72_75 ku_X0_seatFrom_72_75 (lv' := [(6, .int i_), (0, .ref wheel), (1, .ref ring), (2, .int 6), (3, .int uq), (4, .int xq), (5, .int yq)]) (st' := [.int i_, .int 6, .ref ks]) rfl ?_
          refine z_iast X du_X0_seatFrom_75 2 rfl (show vp_in _ _ from by unfold vp_in; decide) (ws' := [(wheel, ob 0 [.int cc, .ref kw, .ref ks, .ref kb, wX4, wX5, .long m_]), (kw, aI G 8 fw), (ks, aI G 8 (upd g 6 i_)), (kb, aI G 8 b), (ring, ob 5 [.int hc, g_rp, .ref rx, .ref ry, g_rr, g_rh, g_rd, g_ph, g_po]), (rx, aI G 16 fx), (ry, aI G 16 fy)]) rfl ?_
          refine z_run X bu_X0_seatFrom_76_90 ku_X0_seatFrom_76_90 (lv' := [(6, .int i_), (0, .ref wheel), (1, .ref ring), (2, .int 6), (3, .int uq), (4, .int xq), (5, .int yq)]) (st' := [.ref wheel, .int xq, .int (uq ||| ((1 : Int32) <<< (i_ &&& 31))), .int 7, .ref ring, .ref wheel]) rfl ?_
          refine z_get X fl_0_9 du_X0_seatFrom_90 0 rfl (v := .ref kw) rfl ?_
          refine z_run X bu_X0_seatFrom_93_95 ku_X0_seatFrom_93_95 (lv' := [(6, .int i_), (0, .ref wheel), (1, .ref ring), (2, .int 6), (3, .int uq), (4, .int xq), (5, .int yq)]) (st' := [.int i_, .ref kw, .int xq, .int (uq ||| ((1 : Int32) <<< (i_ &&& 31))), .int 7, .ref ring, .ref wheel]) rfl ?_
          refine z_iald X du_X0_seatFrom_95 1 rfl (vin rfl (by omega) (by omega)) (v := (fw i_.toNatClampNeg)) rfl ?_
          refine z_run X bu_X0_seatFrom_96_97 ku_X0_seatFrom_96_97 (lv' := [(6, .int i_), (0, .ref wheel), (1, .ref ring), (2, .int 6), (3, .int uq), (4, .int xq), (5, .int yq)]) (st' := [.ref ring, .int (fw i_.toNatClampNeg), .int xq, .int (uq ||| ((1 : Int32) <<< (i_ &&& 31))), .int 7, .ref ring, .ref wheel]) rfl ?_
          refine z_getN X fl_0_31 du_X0_seatFrom_97 4 rfl (v := .ref rx) rfl ?_
          refine z_run X bu_X0_seatFrom_100_101 ku_X0_seatFrom_100_101 (lv' := [(6, .int i_), (0, .ref wheel), (1, .ref ring), (2, .int 6), (3, .int uq), (4, .int xq), (5, .int yq)]) (st' := [.int 6, .ref rx, .int (fw i_.toNatClampNeg), .int xq, .int (uq ||| ((1 : Int32) <<< (i_ &&& 31))), .int 7, .ref ring, .ref wheel]) rfl ?_
          refine z_iald X du_X0_seatFrom_101 5 rfl (show vp_in _ _ from by unfold vp_in; decide) (v := (fx (6 : Int32).toNatClampNeg)) rfl ?_
          refine z_run X bu_X0_seatFrom_102_107 ku_X0_seatFrom_102_107 (lv' := [(6, .int i_), (0, .ref wheel), (1, .ref ring), (2, .int 6), (3, .int uq), (4, .int xq), (5, .int yq)]) (st' := [.ref wheel, .int yq, .int (xq + ((fw i_.toNatClampNeg) * (fx (6 : Int32).toNatClampNeg))), .int (uq ||| ((1 : Int32) <<< (i_ &&& 31))), .int 7, .ref ring, .ref wheel]) rfl ?_
          refine z_get X fl_0_9 du_X0_seatFrom_107 0 rfl (v := .ref kw) rfl ?_
          refine z_run X bu_X0_seatFrom_110_112 ku_X0_seatFrom_110_112 (lv' := [(6, .int i_), (0, .ref wheel), (1, .ref ring), (2, .int 6), (3, .int uq), (4, .int xq), (5, .int yq)]) (st' := [.int i_, .ref kw, .int yq, .int (xq + ((fw i_.toNatClampNeg) * (fx (6 : Int32).toNatClampNeg))), .int (uq ||| ((1 : Int32) <<< (i_ &&& 31))), .int 7, .ref ring, .ref wheel]) rfl ?_
          refine z_iald X du_X0_seatFrom_112 1 rfl (vin rfl (by omega) (by omega)) (v := (fw i_.toNatClampNeg)) rfl ?_
          refine z_run X bu_X0_seatFrom_113_114 ku_X0_seatFrom_113_114 (lv' := [(6, .int i_), (0, .ref wheel), (1, .ref ring), (2, .int 6), (3, .int uq), (4, .int xq), (5, .int yq)]) (st' := [.ref ring, .int (fw i_.toNatClampNeg), .int yq, .int (xq + ((fw i_.toNatClampNeg) * (fx (6 : Int32).toNatClampNeg))), .int (uq ||| ((1 : Int32) <<< (i_ &&& 31))), .int 7, .ref ring, .ref wheel]) rfl ?_
          refine z_getN X fl_0_35 du_X0_seatFrom_114 4 rfl (v := .ref ry) rfl ?_
          refine z_run X bu_X0_seatFrom_117_118 ku_X0_seatFrom_117_118 (lv' := [(6, .int i_), (0, .ref wheel), (1, .ref ring), (2, .int 6), (3, .int uq), (4, .int xq), (5, .int yq)]) (st' := [.int 6, .ref ry, .int (fw i_.toNatClampNeg), .int yq, .int (xq + ((fw i_.toNatClampNeg) * (fx (6 : Int32).toNatClampNeg))), .int (uq ||| ((1 : Int32) <<< (i_ &&& 31))), .int 7, .ref ring, .ref wheel]) rfl ?_
          refine z_iald X du_X0_seatFrom_118 6 rfl (show vp_in _ _ from by unfold vp_in; decide) (v := (fy (6 : Int32).toNatClampNeg)) rfl ?_
          refine z_run X bu_X0_seatFrom_119_121 ku_X0_seatFrom_119_121 (lv' := [(6, .int i_), (0, .ref wheel), (1, .ref ring), (2, .int 6), (3, .int uq), (4, .int xq), (5, .int yq)]) (st' := [.int (yq + ((fw i_.toNatClampNeg) * (fy (6 : Int32).toNatClampNeg))), .int (xq + ((fw i_.toNatClampNeg) * (fx (6 : Int32).toNatClampNeg))), .int (uq ||| ((1 : Int32) <<< (i_ &&& 31))), .int 7, .ref ring, .ref wheel]) rfl ?_
          refine z_callV X k_0_45 (cu_X0_seatFrom7 l G wheel cc kw ks kb wX4 wX5 m_ fw (upd g 6 i_) b ring hc g_rp rx ry g_rr g_rh g_rd g_ph g_po fx fy (uq ||| ((1 : Int32) <<< (i_ &&& 31))) (xq + ((fw i_.toNatClampNeg) * (fx (6 : Int32).toNatClampNeg))) (yq + ((fw i_.toNatClampNeg) * (fy (6 : Int32).toNatClampNeg))) cci hcc (by omega)) du_X0_seatFrom_121 0 rfl rfl rfl ⟨Nat.le_of_ble_eq_true rfl, Nat.le_of_ble_eq_true rfl⟩ ⟨Nat.le_of_ble_eq_true rfl, Nat.le_of_ble_eq_true rfl⟩ rfl (rest := []) (As := [.ref ring, .int 7, .int (uq ||| ((1 : Int32) <<< (i_ &&& 31))), .int (xq + ((fw i_.toNatClampNeg) * (fx (6 : Int32).toNatClampNeg))), .int (yq + ((fw i_.toNatClampNeg) * (fy (6 : Int32).toNatClampNeg)))]) rfl (Nat.le_of_ble_eq_true rfl) [0, 1, 2, 3, 4, 5, 6] [] rfl (by decide) (wr := []) rfl (by decide) (by decide) ?_
          rintro _ _ ⟨lq2_4, g2_5, b2_6, f121_7, rfl, rfl⟩
          refine Z.at (pc' := 124) (st' := []) (ws' := [(wheel, ob 0 [.int cc, .ref kw, .ref ks, .ref kb, wX4, wX5, .long lq2_4]), (kw, aI G 8 fw), (ks, aI G 8 g2_5), (kb, aI G 8 b2_6), (ring, ob 5 [.int hc, g_rp, .ref rx, .ref ry, g_rr, g_rh, g_rd, g_ph, g_po]), (rx, aI G 16 fx), (ry, aI G 16 fy)]) (kc' := 0) (ks' := 0) rfl rfl rfl rfl rfl ?_
          rw [show (6 : Int32).toNatClampNeg = 6 from by decide] at f121_7
          refine z_run X bu_X0_seatFrom_124_127 ku_X0_seatFrom_124_127 (lv' := [(6, .int (i_ + 1)), (0, .ref wheel), (1, .ref ring), (2, .int 6), (3, .int uq), (4, .int xq), (5, .int yq)]) (st' := []) rfl ?_
          refine z_goto X du_X0_seatFrom_127 (tgt := 50) (by decide) ?_
          exact ih50 ((i_ + 1), lq2_4, g2_5, b2_6) ⟨(by dsimp only; have e : (i_ + 1).toInt = i_.toInt + 1 := tI_add rfl (show (1 : Int32).toInt = 1 from by decide) (by omega); omega), (by dsimp only; have e : (i_ + 1).toInt = i_.toInt + 1 := tI_add rfl (show (1 : Int32).toInt = 1 from by decide) (by omega); rw [e, show (i_.toInt + 1).toNat = i_.toInt.toNat + 1 by omega]; exact (f121_7).trans (ordI_y (by omega) (show bitF uq i_ by unfold bitF; omega) hm).symm)⟩ (by dsimp only; have e : (i_ + 1).toInt = i_.toInt + 1 := tI_add rfl (show (1 : Int32).toInt = 1 from by decide) (by omega); omega)
    · exact ⟨(by dsimp only; have e0 : (0 : Int32).toInt = 0 := (by decide); omega), (by dsimp only; have e0 : (0 : Int32).toInt = 0 := (by decide); rw [e0]; rfl)⟩
  ·
    refine z_run X bu_X0_seatFrom_8_14 ku_X0_seatFrom_8_14 (lv' := [(0, .ref wheel), (1, .ref ring), (2, .int 6), (3, .int uq), (4, .int xq), (5, .int yq)]) (st' := [.long yq.toInt64, .long xq.toInt64]) rfl ?_
    refine z_callSN X k_0_49 (cg_X10_sizeOf l G xq.toInt64 yq.toInt64) du_X0_seatFrom_14 ⟨Nat.le_of_ble_eq_true rfl, Nat.le_of_ble_eq_true rfl⟩ ⟨Nat.le_of_ble_eq_true rfl, Nat.le_of_ble_eq_true rfl⟩ rfl (rest := []) (As := [.long xq.toInt64, .long yq.toInt64]) rfl (Nat.le_of_ble_eq_true rfl) [] [0, 1, 2, 3, 4, 5, 6] rfl (by decide) (wr := [(wheel, ob 0 [.int cc, .ref kw, .ref ks, .ref kb, wX4, wX5, .long lq]), (kw, aI G 8 fw), (ks, aI G 8 fs), (kb, aI G 8 fb), (ring, ob 5 [.int hc, g_rp, .ref rx, .ref ry, g_rr, g_rh, g_rd, g_ph, g_po]), (rx, aI G 16 fx), (ry, aI G 16 fy)]) rfl (by decide) (by decide) ?_
    rintro _ _ ⟨rz_8, f14_9, rfl, rfl⟩
    refine Z.at (pc' := 17) (st' := [.long rz_8]) (ws' := [(wheel, ob 0 [.int cc, .ref kw, .ref ks, .ref kb, wX4, wX5, .long lq]), (kw, aI G 8 fw), (ks, aI G 8 fs), (kb, aI G 8 fb), (ring, ob 5 [.int hc, g_rp, .ref rx, .ref ry, g_rr, g_rh, g_rd, g_ph, g_po]), (rx, aI G 16 fx), (ry, aI G 16 fy)]) (kc' := 0) (ks' := 0) rfl rfl rfl rfl rfl ?_
    refine z_run X bu_X0_seatFrom_17_22 ku_X0_seatFrom_17_22 (lv' := [(6, .long rz_8), (0, .ref wheel), (1, .ref ring), (2, .int 6), (3, .int uq), (4, .int xq), (5, .int yq)]) (st' := [.ref wheel, .long rz_8]) rfl ?_
    refine z_get X fl_0_41 du_X0_seatFrom_22 0 rfl (v := .long lq) rfl ?_
    refine zl_ge X du_X0_seatFrom_25 du_X0_seatFrom_26 (tgt := 46) (by decide) (a := rz_8.toInt) (b := lq.toInt) rfl rfl (fun c25_10 => ?_) (fun c25_10 => ?_)
    ·
      exact z_vret X rfl du_X0_seatFrom_46 (Nat.le_of_ble_eq_true rfl) (Nat.le_of_ble_eq_true rfl) ⟨lq, fs, fb, (by rw [(ordC_leaf (show ¬ 6 < cci.toNat by omega))]; exact (mn6_f (by have z := congrArg Int64.toInt f14_9; unfold sz; omega)).symm), rfl, rfl⟩
    ·
      refine z_run X bu_X0_seatFrom_29_32 ku_X0_seatFrom_29_32 (lv' := [(6, .long rz_8), (0, .ref wheel), (1, .ref ring), (2, .int 6), (3, .int uq), (4, .int xq), (5, .int yq)]) (st' := [.long rz_8, .ref wheel]) rfl ?_
      refine z_put X fl_0_41 du_X0_seatFrom_32 0 rfl (ty := .long) (T := TX0) (N := 7) rfl (Or.inl rfl) (by decide +kernel) rfl (by rfl) (Nat.le_of_ble_eq_true rfl) (ws' := [(wheel, ob 0 [.int cc, .ref kw, .ref ks, .ref kb, wX4, wX5, .long rz_8]), (kw, aI G 8 fw), (ks, aI G 8 fs), (kb, aI G 8 fb), (ring, ob 5 [.int hc, g_rp, .ref rx, .ref ry, g_rr, g_rh, g_rd, g_ph, g_po]), (rx, aI G 16 fx), (ry, aI G 16 fy)]) rfl ?_
      refine z_run X bu_X0_seatFrom_35_36 ku_X0_seatFrom_35_36 (lv' := [(6, .long rz_8), (0, .ref wheel), (1, .ref ring), (2, .int 6), (3, .int uq), (4, .int xq), (5, .int yq)]) (st' := [.ref wheel]) rfl ?_
      refine z_get X fl_0_15 du_X0_seatFrom_36 0 rfl (v := .ref ks) rfl ?_
      refine z_run X bu_X0_seatFrom_39_40 ku_X0_seatFrom_39_40 (lv' := [(6, .long rz_8), (0, .ref wheel), (1, .ref ring), (2, .int 6), (3, .int uq), (4, .int xq), (5, .int yq)]) (st' := [.ref wheel, .ref ks]) rfl ?_
      refine z_get X fl_0_18 du_X0_seatFrom_40 0 rfl (v := .ref kb) rfl ?_
      refine z_callSN X k_0_53 (cu_X10_copyO l G ks kb fs fb) du_X0_seatFrom_43 ⟨Nat.le_of_ble_eq_true rfl, Nat.le_of_ble_eq_true rfl⟩ ⟨Nat.le_of_ble_eq_true rfl, Nat.le_of_ble_eq_true rfl⟩ rfl (rest := []) (As := [.ref ks, .ref kb]) rfl (Nat.le_of_ble_eq_true rfl) [2, 3] [0, 1, 4, 5, 6] rfl (by decide) (wr := [(wheel, ob 0 [.int cc, .ref kw, .ref ks, .ref kb, wX4, wX5, .long rz_8]), (kw, aI G 8 fw), (ring, ob 5 [.int hc, g_rp, .ref rx, .ref ry, g_rr, g_rh, g_rd, g_ph, g_po]), (rx, aI G 16 fx), (ry, aI G 16 fy)]) rfl (by decide) (by decide) ?_
      rintro _ _ ⟨g2_11, rfl, rfl⟩
      refine Z.at (pc' := 46) (st' := []) (ws' := [(wheel, ob 0 [.int cc, .ref kw, .ref ks, .ref kb, wX4, wX5, .long rz_8]), (kw, aI G 8 fw), (ring, ob 5 [.int hc, g_rp, .ref rx, .ref ry, g_rr, g_rh, g_rd, g_ph, g_po]), (rx, aI G 16 fx), (ry, aI G 16 fy), (ks, aI G 8 fs), (kb, aI G 8 g2_11)]) (kc' := 0) (ks' := 0) rfl rfl rfl rfl rfl ?_
      refine Z.sub (lv' := []) [] rfl [0, 1, 5, 6, 2, 3, 4] (ws' := [(wheel, ob 0 [.int cc, .ref kw, .ref ks, .ref kb, wX4, wX5, .long rz_8]), (kw, aI G 8 fw), (ks, aI G 8 fs), (kb, aI G 8 g2_11), (ring, ob 5 [.int hc, g_rp, .ref rx, .ref ry, g_rr, g_rh, g_rd, g_ph, g_po]), (rx, aI G 16 fx), (ry, aI G 16 fy)]) rfl (by decide) ?_
      exact z_vret X rfl du_X0_seatFrom_46 (Nat.le_of_ble_eq_true rfl) (Nat.le_of_ble_eq_true rfl) ⟨rz_8, fs, g2_11, (by rw [(ordC_leaf (show ¬ 6 < cci.toNat by omega)), f14_9]; exact (mn6_t (show (sz xq yq).toInt < lq.toInt from (by have z : rz_8.toInt = (sz xq yq).toInt := congrArg Int64.toInt f14_9; omega))).symm), rfl, rfl⟩

set_option maxHeartbeats 4000000 in
set_option maxRecDepth 100000 in
theorem cu_X0_seatFrom5 (l : Launch) (G : KG) (wheel : Nat) (cc : Int32) (kw : Nat) (ks : Nat) (kb : Nat) (wX4 : Value) (wX5 : Value) (lq : Int64) (fw : Nat → Int32) (fs : Nat → Int32) (fb : Nat → Int32) (ring : Nat) (hc : Int32) (g_rp : Value) (rx : Nat) (ry : Nat) (g_rr : Value) (g_rh : Value) (g_rd : Value) (g_ph : Value) (g_po : Value) (fx : Nat → Int32) (fy : Nat → Int32) (uq : Int32) (xq : Int32) (yq : Int32) (cci : Int) (hcc : cc.toInt = cci) (hcb : 0 ≤ cci ∧ cci ≤ 8) : Ct l G yX0_seatFrom cX0_seatFrom 8 none { frames := 4, cells := 0, slots := 0, locals := 104 } [.ref wheel, .ref ring, .int 5, .int uq, .int xq, .int yq] [(wheel, ob 0 [.int cc, .ref kw, .ref ks, .ref kb, wX4, wX5, .long lq]), (kw, aI G 8 fw), (ks, aI G 8 fs), (kb, aI G 8 fb), (ring, ob 5 [.int hc, g_rp, .ref rx, .ref ry, g_rr, g_rh, g_rd, g_ph, g_po]), (rx, aI G 16 fx), (ry, aI G 16 fy)] (fun r w1 => ∃ (lq2 : Int64), ∃ (g2 : Nat → Int32), ∃ (b2 : Nat → Int32), (lq2 = ordC fw fx fy cci.toNat 3 5 uq xq yq lq) ∧ r = none ∧ w1 = [(wheel, ob 0 [.int cc, .ref kw, .ref ks, .ref kb, wX4, wX5, .long lq2]), (kw, aI G 8 fw), (ks, aI G 8 g2), (kb, aI G 8 b2), (ring, ob 5 [.int hc, g_rp, .ref rx, .ref ry, g_rr, g_rh, g_rd, g_ph, g_po]), (rx, aI G 16 fx), (ry, aI G 16 fy)]) := by
  refine ct_of [(0, .ref wheel), (1, .ref ring), (2, .int 5), (3, .int uq), (4, .int xq), (5, .int yq)] (by decide) (Nat.le_of_ble_eq_true rfl) rfl ?_
  intro p0 e0 s0 m0 args0 below0 meth0 c0 A X
  refine z_run X bu_X0_seatFrom_0_2 ku_X0_seatFrom_0_2 (lv' := [(0, .ref wheel), (1, .ref ring), (2, .int 5), (3, .int uq), (4, .int xq), (5, .int yq)]) (st' := [.ref wheel, .int 5]) rfl ?_
  refine z_get X fl_0_28 du_X0_seatFrom_2 0 rfl (v := .int cc) rfl ?_
  refine zc_lt X du_X0_seatFrom_5 (tgt := 47) (by decide) (a := 5) (b := cci) (show (5 : Int32).toInt = 5 from by decide) hcc (fun c5_1 => ?_) (fun c5_1 => ?_)
  ·
    refine z_run X bu_X0_seatFrom_47_50 ku_X0_seatFrom_47_50 (lv' := [(6, .int 0), (0, .ref wheel), (1, .ref ring), (2, .int 5), (3, .int uq), (4, .int xq), (5, .int yq)]) (st' := []) rfl ?_
    refine zloop (σ := Int32 × Int64 × (Nat → Int32) × (Nat → Int32)) (fun z => [(6, .int z.1), (0, .ref wheel), (1, .ref ring), (2, .int 5), (3, .int uq), (4, .int xq), (5, .int yq)]) (fun z => []) (fun z => [(wheel, ob 0 [.int cc, .ref kw, .ref ks, .ref kb, wX4, wX5, .long z.2.1]), (kw, aI G 8 fw), (ks, aI G 8 z.2.2.1), (kb, aI G 8 z.2.2.2), (ring, ob 5 [.int hc, g_rp, .ref rx, .ref ry, g_rr, g_rh, g_rd, g_ph, g_po]), (rx, aI G 16 fx), (ry, aI G 16 fy)]) (fun z => (0 ≤ z.1.toInt ∧ z.1.toInt ≤ cci) ∧ (z.2.1 = ordI (fun (k : Int32) (m : Int64) => ordC fw fx fy cci.toNat 2 6 (uq ||| ((1 : Int32) <<< (k &&& 31))) (xq + fw k.toNatClampNeg * fx 5) (yq + fw k.toNatClampNeg * fy 5) m) uq z.1.toInt.toNat lq)) (fun z => (cci - z.1.toInt).toNat) (0, lq, fs, fb) ?_ ?_
    ·
      rintro ⟨i_, m_, g, b⟩ ⟨hi, hm⟩ ih50
      dsimp only at *
      refine z_run X bu_X0_seatFrom_50_53 ku_X0_seatFrom_50_53 (lv' := [(6, .int i_), (0, .ref wheel), (1, .ref ring), (2, .int 5), (3, .int uq), (4, .int xq), (5, .int yq)]) (st' := [.ref wheel, .int i_]) rfl ?_
      refine z_get X fl_0_28 du_X0_seatFrom_53 0 rfl (v := .int cc) rfl ?_
      refine zc_ge X du_X0_seatFrom_56 (tgt := 130) (by decide) (a := i_.toInt) (b := cci) rfl hcc (fun c56_2 => ?_) (fun c56_2 => ?_)
      ·
        exact z_vret X rfl du_X0_seatFrom_130 (Nat.le_of_ble_eq_true rfl) (Nat.le_of_ble_eq_true rfl) ⟨m_, g, b, (by rw [ordC_in (show 5 < cci.toNat by omega)]; rw [show i_.toInt.toNat = cci.toNat by omega] at hm; exact hm), rfl, rfl⟩
      ·
        refine z_run X bu_X0_seatFrom_59_65 ku_X0_seatFrom_59_65 (lv' := [(6, .int i_), (0, .ref wheel), (1, .ref ring), (2, .int 5), (3, .int uq), (4, .int xq), (5, .int yq)]) (st' := [.int ((uq >>> (i_ &&& 31)) &&& 1)]) rfl ?_
        refine zi_ne X du_X0_seatFrom_65 (tgt := 124) (by decide) (a := ((uq >>> (i_ &&& 31)) &&& 1).toInt) rfl (fun c65_3 => ?_) (fun c65_3 => ?_)
        ·
          refine z_run X bu_X0_seatFrom_124_127 ku_X0_seatFrom_124_127 (lv' := [(6, .int (i_ + 1)), (0, .ref wheel), (1, .ref ring), (2, .int 5), (3, .int uq), (4, .int xq), (5, .int yq)]) (st' := []) rfl ?_
          refine z_goto X du_X0_seatFrom_127 (tgt := 50) (by decide) ?_
          exact ih50 ((i_ + 1), m_, g, b) ⟨(by dsimp only; have e : (i_ + 1).toInt = i_.toInt + 1 := tI_add rfl (show (1 : Int32).toInt = 1 from by decide) (by omega); omega), (by dsimp only; have e : (i_ + 1).toInt = i_.toInt + 1 := tI_add rfl (show (1 : Int32).toInt = 1 from by decide) (by omega); rw [e, show (i_.toInt + 1).toNat = i_.toInt.toNat + 1 by omega]; exact (ordI_n (by omega) (show ¬ bitF uq i_ by unfold bitF; omega) hm).symm)⟩ (by dsimp only; have e : (i_ + 1).toInt = i_.toInt + 1 := tI_add rfl (show (1 : Int32).toInt = 1 from by decide) (by omega); omega)
        ·
          refine z_run X bu_X0_seatFrom_68_69 ku_X0_seatFrom_68_69 (lv' := [(6, .int i_), (0, .ref wheel), (1, .ref ring), (2, .int 5), (3, .int uq), (4, .int xq), (5, .int yq)]) (st' := [.ref wheel]) rfl ?_
          refine z_get X fl_0_15 du_X0_seatFrom_69 0 rfl (v := .ref ks) rfl ?_
          refine z_run X bu_X0_seatFrom_72_75 ku_X0_seatFrom_72_75 (lv' := [(6, .int i_), (0, .ref wheel), (1, .ref ring), (2, .int 5), (3, .int uq), (4, .int xq), (5, .int yq)]) (st' := [.int i_, .int 5, .ref ks]) rfl ?_
          refine z_iast X du_X0_seatFrom_75 2 rfl (show vp_in _ _ from by unfold vp_in; decide) (ws' := [(wheel, ob 0 [.int cc, .ref kw, .ref ks, .ref kb, wX4, wX5, .long m_]), (kw, aI G 8 fw), (ks, aI G 8 (upd g 5 i_)), (kb, aI G 8 b), (ring, ob 5 [.int hc, g_rp, .ref rx, .ref ry, g_rr, g_rh, g_rd, g_ph, g_po]), (rx, aI G 16 fx), (ry, aI G 16 fy)]) rfl ?_
          refine z_run X bu_X0_seatFrom_76_90 ku_X0_seatFrom_76_90 (lv' := [(6, .int i_), (0, .ref wheel), (1, .ref ring), (2, .int 5), (3, .int uq), (4, .int xq), (5, .int yq)]) (st' := [.ref wheel, .int xq, .int (uq ||| ((1 : Int32) <<< (i_ &&& 31))), .int 6, .ref ring, .ref wheel]) rfl ?_
          refine z_get X fl_0_9 du_X0_seatFrom_90 0 rfl (v := .ref kw) rfl ?_
          refine z_run X bu_X0_seatFrom_93_95 ku_X0_seatFrom_93_95 (lv' := [(6, .int i_), (0, .ref wheel), (1, .ref ring), (2, .int 5), (3, .int uq), (4, .int xq), (5, .int yq)]) (st' := [.int i_, .ref kw, .int xq, .int (uq ||| ((1 : Int32) <<< (i_ &&& 31))), .int 6, .ref ring, .ref wheel]) rfl ?_
          refine z_iald X du_X0_seatFrom_95 1 rfl (vin rfl (by omega) (by omega)) (v := (fw i_.toNatClampNeg)) rfl ?_
          refine z_run X bu_X0_seatFrom_96_97 ku_X0_seatFrom_96_97 (lv' := [(6, .int i_), (0, .ref wheel), (1, .ref ring), (2, .int 5), (3, .int uq), (4, .int xq), (5, .int yq)]) (st' := [.ref ring, .int (fw i_.toNatClampNeg), .int xq, .int (uq ||| ((1 : Int32) <<< (i_ &&& 31))), .int 6, .ref ring, .ref wheel]) rfl ?_
          refine z_getN X fl_0_31 du_X0_seatFrom_97 4 rfl (v := .ref rx) rfl ?_
          refine z_run X bu_X0_seatFrom_100_101 ku_X0_seatFrom_100_101 (lv' := [(6, .int i_), (0, .ref wheel), (1, .ref ring), (2, .int 5), (3, .int uq), (4, .int xq), (5, .int yq)]) (st' := [.int 5, .ref rx, .int (fw i_.toNatClampNeg), .int xq, .int (uq ||| ((1 : Int32) <<< (i_ &&& 31))), .int 6, .ref ring, .ref wheel]) rfl ?_
          refine z_iald X du_X0_seatFrom_101 5 rfl (show vp_in _ _ from by unfold vp_in; decide) (v := (fx (5 : Int32).toNatClampNeg)) rfl ?_
          refine z_run X bu_X0_seatFrom_102_107 ku_X0_seatFrom_102_107 (lv' := [(6, .int i_), (0, .ref wheel), (1, .ref ring), (2, .int 5), (3, .int uq), (4, .int xq), (5, .int yq)]) (st' := [.ref wheel, .int yq, .int (xq + ((fw i_.toNatClampNeg) * (fx (5 : Int32).toNatClampNeg))), .int (uq ||| ((1 : Int32) <<< (i_ &&& 31))), .int 6, .ref ring, .ref wheel]) rfl ?_
          refine z_get X fl_0_9 du_X0_seatFrom_107 0 rfl (v := .ref kw) rfl ?_
          refine z_run X bu_X0_seatFrom_110_112 ku_X0_seatFrom_110_112 (lv' := [(6, .int i_), (0, .ref wheel), (1, .ref ring), (2, .int 5), (3, .int uq), (4, .int xq), (5, .int yq)]) (st' := [.int i_, .ref kw, .int yq, .int (xq + ((fw i_.toNatClampNeg) * (fx (5 : Int32).toNatClampNeg))), .int (uq ||| ((1 : Int32) <<< (i_ &&& 31))), .int 6, .ref ring, .ref wheel]) rfl ?_
          refine z_iald X du_X0_seatFrom_112 1 rfl (vin rfl (by omega) (by omega)) (v := (fw i_.toNatClampNeg)) rfl ?_
          refine z_run X bu_X0_seatFrom_113_114 ku_X0_seatFrom_113_114 (lv' := [(6, .int i_), (0, .ref wheel), (1, .ref ring), (2, .int 5), (3, .int uq), (4, .int xq), (5, .int yq)]) (st' := [.ref ring, .int (fw i_.toNatClampNeg), .int yq, .int (xq + ((fw i_.toNatClampNeg) * (fx (5 : Int32).toNatClampNeg))), .int (uq ||| ((1 : Int32) <<< (i_ &&& 31))), .int 6, .ref ring, .ref wheel]) rfl ?_
          refine z_getN X fl_0_35 du_X0_seatFrom_114 4 rfl (v := .ref ry) rfl ?_
          refine z_run X bu_X0_seatFrom_117_118 ku_X0_seatFrom_117_118 (lv' := [(6, .int i_), (0, .ref wheel), (1, .ref ring), (2, .int 5), (3, .int uq), (4, .int xq), (5, .int yq)]) (st' := [.int 5, .ref ry, .int (fw i_.toNatClampNeg), .int yq, .int (xq + ((fw i_.toNatClampNeg) * (fx (5 : Int32).toNatClampNeg))), .int (uq ||| ((1 : Int32) <<< (i_ &&& 31))), .int 6, .ref ring, .ref wheel]) rfl ?_
          refine z_iald X du_X0_seatFrom_118 6 rfl (show vp_in _ _ from by unfold vp_in; decide) (v := (fy (5 : Int32).toNatClampNeg)) rfl ?_
          refine z_run X bu_X0_seatFrom_119_121 ku_X0_seatFrom_119_121 (lv' := [(6, .int i_), (0, .ref wheel), (1, .ref ring), (2, .int 5), (3, .int uq), (4, .int xq), (5, .int yq)]) (st' := [.int (yq + ((fw i_.toNatClampNeg) * (fy (5 : Int32).toNatClampNeg))), .int (xq + ((fw i_.toNatClampNeg) * (fx (5 : Int32).toNatClampNeg))), .int (uq ||| ((1 : Int32) <<< (i_ &&& 31))), .int 6, .ref ring, .ref wheel]) rfl ?_
          refine z_callV X k_0_45 (cu_X0_seatFrom6 l G wheel cc kw ks kb wX4 wX5 m_ fw (upd g 5 i_) b ring hc g_rp rx ry g_rr g_rh g_rd g_ph g_po fx fy (uq ||| ((1 : Int32) <<< (i_ &&& 31))) (xq + ((fw i_.toNatClampNeg) * (fx (5 : Int32).toNatClampNeg))) (yq + ((fw i_.toNatClampNeg) * (fy (5 : Int32).toNatClampNeg))) cci hcc (by omega)) du_X0_seatFrom_121 0 rfl rfl rfl ⟨Nat.le_of_ble_eq_true rfl, Nat.le_of_ble_eq_true rfl⟩ ⟨Nat.le_of_ble_eq_true rfl, Nat.le_of_ble_eq_true rfl⟩ rfl (rest := []) (As := [.ref ring, .int 6, .int (uq ||| ((1 : Int32) <<< (i_ &&& 31))), .int (xq + ((fw i_.toNatClampNeg) * (fx (5 : Int32).toNatClampNeg))), .int (yq + ((fw i_.toNatClampNeg) * (fy (5 : Int32).toNatClampNeg)))]) rfl (Nat.le_of_ble_eq_true rfl) [0, 1, 2, 3, 4, 5, 6] [] rfl (by decide) (wr := []) rfl (by decide) (by decide) ?_
          rintro _ _ ⟨lq2_4, g2_5, b2_6, f121_7, rfl, rfl⟩
          refine Z.at (pc' := 124) (st' := []) (ws' := [(wheel, ob 0 [.int cc, .ref kw, .ref ks, .ref kb, wX4, wX5, .long lq2_4]), (kw, aI G 8 fw), (ks, aI G 8 g2_5), (kb, aI G 8 b2_6), (ring, ob 5 [.int hc, g_rp, .ref rx, .ref ry, g_rr, g_rh, g_rd, g_ph, g_po]), (rx, aI G 16 fx), (ry, aI G 16 fy)]) (kc' := 0) (ks' := 0) rfl rfl rfl rfl rfl ?_
          rw [show (5 : Int32).toNatClampNeg = 5 from by decide] at f121_7
          refine z_run X bu_X0_seatFrom_124_127 ku_X0_seatFrom_124_127 (lv' := [(6, .int (i_ + 1)), (0, .ref wheel), (1, .ref ring), (2, .int 5), (3, .int uq), (4, .int xq), (5, .int yq)]) (st' := []) rfl ?_
          refine z_goto X du_X0_seatFrom_127 (tgt := 50) (by decide) ?_
          exact ih50 ((i_ + 1), lq2_4, g2_5, b2_6) ⟨(by dsimp only; have e : (i_ + 1).toInt = i_.toInt + 1 := tI_add rfl (show (1 : Int32).toInt = 1 from by decide) (by omega); omega), (by dsimp only; have e : (i_ + 1).toInt = i_.toInt + 1 := tI_add rfl (show (1 : Int32).toInt = 1 from by decide) (by omega); rw [e, show (i_.toInt + 1).toNat = i_.toInt.toNat + 1 by omega]; exact (f121_7).trans (ordI_y (by omega) (show bitF uq i_ by unfold bitF; omega) hm).symm)⟩ (by dsimp only; have e : (i_ + 1).toInt = i_.toInt + 1 := tI_add rfl (show (1 : Int32).toInt = 1 from by decide) (by omega); omega)
    · exact ⟨(by dsimp only; have e0 : (0 : Int32).toInt = 0 := (by decide); omega), (by dsimp only; have e0 : (0 : Int32).toInt = 0 := (by decide); rw [e0]; rfl)⟩
  ·
    refine z_run X bu_X0_seatFrom_8_14 ku_X0_seatFrom_8_14 (lv' := [(0, .ref wheel), (1, .ref ring), (2, .int 5), (3, .int uq), (4, .int xq), (5, .int yq)]) (st' := [.long yq.toInt64, .long xq.toInt64]) rfl ?_
    refine z_callSN X k_0_49 (cg_X10_sizeOf l G xq.toInt64 yq.toInt64) du_X0_seatFrom_14 ⟨Nat.le_of_ble_eq_true rfl, Nat.le_of_ble_eq_true rfl⟩ ⟨Nat.le_of_ble_eq_true rfl, Nat.le_of_ble_eq_true rfl⟩ rfl (rest := []) (As := [.long xq.toInt64, .long yq.toInt64]) rfl (Nat.le_of_ble_eq_true rfl) [] [0, 1, 2, 3, 4, 5, 6] rfl (by decide) (wr := [(wheel, ob 0 [.int cc, .ref kw, .ref ks, .ref kb, wX4, wX5, .long lq]), (kw, aI G 8 fw), (ks, aI G 8 fs), (kb, aI G 8 fb), (ring, ob 5 [.int hc, g_rp, .ref rx, .ref ry, g_rr, g_rh, g_rd, g_ph, g_po]), (rx, aI G 16 fx), (ry, aI G 16 fy)]) rfl (by decide) (by decide) ?_
    rintro _ _ ⟨rz_8, f14_9, rfl, rfl⟩
    refine Z.at (pc' := 17) (st' := [.long rz_8]) (ws' := [(wheel, ob 0 [.int cc, .ref kw, .ref ks, .ref kb, wX4, wX5, .long lq]), (kw, aI G 8 fw), (ks, aI G 8 fs), (kb, aI G 8 fb), (ring, ob 5 [.int hc, g_rp, .ref rx, .ref ry, g_rr, g_rh, g_rd, g_ph, g_po]), (rx, aI G 16 fx), (ry, aI G 16 fy)]) (kc' := 0) (ks' := 0) rfl rfl rfl rfl rfl ?_
    refine z_run X bu_X0_seatFrom_17_22 ku_X0_seatFrom_17_22 (lv' := [(6, .long rz_8), (0, .ref wheel), (1, .ref ring), (2, .int 5), (3, .int uq), (4, .int xq), (5, .int yq)]) (st' := [.ref wheel, .long rz_8]) rfl ?_
    refine z_get X fl_0_41 du_X0_seatFrom_22 0 rfl (v := .long lq) rfl ?_
    refine zl_ge X du_X0_seatFrom_25 du_X0_seatFrom_26 (tgt := 46) (by decide) (a := rz_8.toInt) (b := lq.toInt) rfl rfl (fun c25_10 => ?_) (fun c25_10 => ?_)
    ·
      exact z_vret X rfl du_X0_seatFrom_46 (Nat.le_of_ble_eq_true rfl) (Nat.le_of_ble_eq_true rfl) ⟨lq, fs, fb, (by rw [(ordC_leaf (show ¬ 5 < cci.toNat by omega))]; exact (mn6_f (by have z := congrArg Int64.toInt f14_9; unfold sz; omega)).symm), rfl, rfl⟩
    ·
      refine z_run X bu_X0_seatFrom_29_32 ku_X0_seatFrom_29_32 (lv' := [(6, .long rz_8), (0, .ref wheel), (1, .ref ring), (2, .int 5), (3, .int uq), (4, .int xq), (5, .int yq)]) (st' := [.long rz_8, .ref wheel]) rfl ?_
      refine z_put X fl_0_41 du_X0_seatFrom_32 0 rfl (ty := .long) (T := TX0) (N := 7) rfl (Or.inl rfl) (by decide +kernel) rfl (by rfl) (Nat.le_of_ble_eq_true rfl) (ws' := [(wheel, ob 0 [.int cc, .ref kw, .ref ks, .ref kb, wX4, wX5, .long rz_8]), (kw, aI G 8 fw), (ks, aI G 8 fs), (kb, aI G 8 fb), (ring, ob 5 [.int hc, g_rp, .ref rx, .ref ry, g_rr, g_rh, g_rd, g_ph, g_po]), (rx, aI G 16 fx), (ry, aI G 16 fy)]) rfl ?_
      refine z_run X bu_X0_seatFrom_35_36 ku_X0_seatFrom_35_36 (lv' := [(6, .long rz_8), (0, .ref wheel), (1, .ref ring), (2, .int 5), (3, .int uq), (4, .int xq), (5, .int yq)]) (st' := [.ref wheel]) rfl ?_
      refine z_get X fl_0_15 du_X0_seatFrom_36 0 rfl (v := .ref ks) rfl ?_
      refine z_run X bu_X0_seatFrom_39_40 ku_X0_seatFrom_39_40 (lv' := [(6, .long rz_8), (0, .ref wheel), (1, .ref ring), (2, .int 5), (3, .int uq), (4, .int xq), (5, .int yq)]) (st' := [.ref wheel, .ref ks]) rfl ?_
      refine z_get X fl_0_18 du_X0_seatFrom_40 0 rfl (v := .ref kb) rfl ?_
      refine z_callSN X k_0_53 (cu_X10_copyO l G ks kb fs fb) du_X0_seatFrom_43 ⟨Nat.le_of_ble_eq_true rfl, Nat.le_of_ble_eq_true rfl⟩ ⟨Nat.le_of_ble_eq_true rfl, Nat.le_of_ble_eq_true rfl⟩ rfl (rest := []) (As := [.ref ks, .ref kb]) rfl (Nat.le_of_ble_eq_true rfl) [2, 3] [0, 1, 4, 5, 6] rfl (by decide) (wr := [(wheel, ob 0 [.int cc, .ref kw, .ref ks, .ref kb, wX4, wX5, .long rz_8]), (kw, aI G 8 fw), (ring, ob 5 [.int hc, g_rp, .ref rx, .ref ry, g_rr, g_rh, g_rd, g_ph, g_po]), (rx, aI G 16 fx), (ry, aI G 16 fy)]) rfl (by decide) (by decide) ?_
      rintro _ _ ⟨g2_11, rfl, rfl⟩
      refine Z.at (pc' := 46) (st' := []) (ws' := [(wheel, ob 0 [.int cc, .ref kw, .ref ks, .ref kb, wX4, wX5, .long rz_8]), (kw, aI G 8 fw), (ring, ob 5 [.int hc, g_rp, .ref rx, .ref ry, g_rr, g_rh, g_rd, g_ph, g_po]), (rx, aI G 16 fx), (ry, aI G 16 fy), (ks, aI G 8 fs), (kb, aI G 8 g2_11)]) (kc' := 0) (ks' := 0) rfl rfl rfl rfl rfl ?_
      refine Z.sub (lv' := []) [] rfl [0, 1, 5, 6, 2, 3, 4] (ws' := [(wheel, ob 0 [.int cc, .ref kw, .ref ks, .ref kb, wX4, wX5, .long rz_8]), (kw, aI G 8 fw), (ks, aI G 8 fs), (kb, aI G 8 g2_11), (ring, ob 5 [.int hc, g_rp, .ref rx, .ref ry, g_rr, g_rh, g_rd, g_ph, g_po]), (rx, aI G 16 fx), (ry, aI G 16 fy)]) rfl (by decide) ?_
      exact z_vret X rfl du_X0_seatFrom_46 (Nat.le_of_ble_eq_true rfl) (Nat.le_of_ble_eq_true rfl) ⟨rz_8, fs, g2_11, (by rw [(ordC_leaf (show ¬ 5 < cci.toNat by omega)), f14_9]; exact (mn6_t (show (sz xq yq).toInt < lq.toInt from (by have z : rz_8.toInt = (sz xq yq).toInt := congrArg Int64.toInt f14_9; omega))).symm), rfl, rfl⟩

set_option maxHeartbeats 4000000 in
set_option maxRecDepth 100000 in
theorem cu_X0_seatFrom4 (l : Launch) (G : KG) (wheel : Nat) (cc : Int32) (kw : Nat) (ks : Nat) (kb : Nat) (wX4 : Value) (wX5 : Value) (lq : Int64) (fw : Nat → Int32) (fs : Nat → Int32) (fb : Nat → Int32) (ring : Nat) (hc : Int32) (g_rp : Value) (rx : Nat) (ry : Nat) (g_rr : Value) (g_rh : Value) (g_rd : Value) (g_ph : Value) (g_po : Value) (fx : Nat → Int32) (fy : Nat → Int32) (uq : Int32) (xq : Int32) (yq : Int32) (cci : Int) (hcc : cc.toInt = cci) (hcb : 0 ≤ cci ∧ cci ≤ 8) : Ct l G yX0_seatFrom cX0_seatFrom 8 none { frames := 5, cells := 0, slots := 0, locals := 131 } [.ref wheel, .ref ring, .int 4, .int uq, .int xq, .int yq] [(wheel, ob 0 [.int cc, .ref kw, .ref ks, .ref kb, wX4, wX5, .long lq]), (kw, aI G 8 fw), (ks, aI G 8 fs), (kb, aI G 8 fb), (ring, ob 5 [.int hc, g_rp, .ref rx, .ref ry, g_rr, g_rh, g_rd, g_ph, g_po]), (rx, aI G 16 fx), (ry, aI G 16 fy)] (fun r w1 => ∃ (lq2 : Int64), ∃ (g2 : Nat → Int32), ∃ (b2 : Nat → Int32), (lq2 = ordC fw fx fy cci.toNat 4 4 uq xq yq lq) ∧ r = none ∧ w1 = [(wheel, ob 0 [.int cc, .ref kw, .ref ks, .ref kb, wX4, wX5, .long lq2]), (kw, aI G 8 fw), (ks, aI G 8 g2), (kb, aI G 8 b2), (ring, ob 5 [.int hc, g_rp, .ref rx, .ref ry, g_rr, g_rh, g_rd, g_ph, g_po]), (rx, aI G 16 fx), (ry, aI G 16 fy)]) := by
  refine ct_of [(0, .ref wheel), (1, .ref ring), (2, .int 4), (3, .int uq), (4, .int xq), (5, .int yq)] (by decide) (Nat.le_of_ble_eq_true rfl) rfl ?_
  intro p0 e0 s0 m0 args0 below0 meth0 c0 A X
  refine z_run X bu_X0_seatFrom_0_2 ku_X0_seatFrom_0_2 (lv' := [(0, .ref wheel), (1, .ref ring), (2, .int 4), (3, .int uq), (4, .int xq), (5, .int yq)]) (st' := [.ref wheel, .int 4]) rfl ?_
  refine z_get X fl_0_28 du_X0_seatFrom_2 0 rfl (v := .int cc) rfl ?_
  refine zc_lt X du_X0_seatFrom_5 (tgt := 47) (by decide) (a := 4) (b := cci) (show (4 : Int32).toInt = 4 from by decide) hcc (fun c5_1 => ?_) (fun c5_1 => ?_)
  ·
    refine z_run X bu_X0_seatFrom_47_50 ku_X0_seatFrom_47_50 (lv' := [(6, .int 0), (0, .ref wheel), (1, .ref ring), (2, .int 4), (3, .int uq), (4, .int xq), (5, .int yq)]) (st' := []) rfl ?_
    refine zloop (σ := Int32 × Int64 × (Nat → Int32) × (Nat → Int32)) (fun z => [(6, .int z.1), (0, .ref wheel), (1, .ref ring), (2, .int 4), (3, .int uq), (4, .int xq), (5, .int yq)]) (fun z => []) (fun z => [(wheel, ob 0 [.int cc, .ref kw, .ref ks, .ref kb, wX4, wX5, .long z.2.1]), (kw, aI G 8 fw), (ks, aI G 8 z.2.2.1), (kb, aI G 8 z.2.2.2), (ring, ob 5 [.int hc, g_rp, .ref rx, .ref ry, g_rr, g_rh, g_rd, g_ph, g_po]), (rx, aI G 16 fx), (ry, aI G 16 fy)]) (fun z => (0 ≤ z.1.toInt ∧ z.1.toInt ≤ cci) ∧ (z.2.1 = ordI (fun (k : Int32) (m : Int64) => ordC fw fx fy cci.toNat 3 5 (uq ||| ((1 : Int32) <<< (k &&& 31))) (xq + fw k.toNatClampNeg * fx 4) (yq + fw k.toNatClampNeg * fy 4) m) uq z.1.toInt.toNat lq)) (fun z => (cci - z.1.toInt).toNat) (0, lq, fs, fb) ?_ ?_
    ·
      rintro ⟨i_, m_, g, b⟩ ⟨hi, hm⟩ ih50
      dsimp only at *
      refine z_run X bu_X0_seatFrom_50_53 ku_X0_seatFrom_50_53 (lv' := [(6, .int i_), (0, .ref wheel), (1, .ref ring), (2, .int 4), (3, .int uq), (4, .int xq), (5, .int yq)]) (st' := [.ref wheel, .int i_]) rfl ?_
      refine z_get X fl_0_28 du_X0_seatFrom_53 0 rfl (v := .int cc) rfl ?_
      refine zc_ge X du_X0_seatFrom_56 (tgt := 130) (by decide) (a := i_.toInt) (b := cci) rfl hcc (fun c56_2 => ?_) (fun c56_2 => ?_)
      ·
        exact z_vret X rfl du_X0_seatFrom_130 (Nat.le_of_ble_eq_true rfl) (Nat.le_of_ble_eq_true rfl) ⟨m_, g, b, (by rw [ordC_in (show 4 < cci.toNat by omega)]; rw [show i_.toInt.toNat = cci.toNat by omega] at hm; exact hm), rfl, rfl⟩
      ·
        refine z_run X bu_X0_seatFrom_59_65 ku_X0_seatFrom_59_65 (lv' := [(6, .int i_), (0, .ref wheel), (1, .ref ring), (2, .int 4), (3, .int uq), (4, .int xq), (5, .int yq)]) (st' := [.int ((uq >>> (i_ &&& 31)) &&& 1)]) rfl ?_
        refine zi_ne X du_X0_seatFrom_65 (tgt := 124) (by decide) (a := ((uq >>> (i_ &&& 31)) &&& 1).toInt) rfl (fun c65_3 => ?_) (fun c65_3 => ?_)
        ·
          refine z_run X bu_X0_seatFrom_124_127 ku_X0_seatFrom_124_127 (lv' := [(6, .int (i_ + 1)), (0, .ref wheel), (1, .ref ring), (2, .int 4), (3, .int uq), (4, .int xq), (5, .int yq)]) (st' := []) rfl ?_
          refine z_goto X du_X0_seatFrom_127 (tgt := 50) (by decide) ?_
          exact ih50 ((i_ + 1), m_, g, b) ⟨(by dsimp only; have e : (i_ + 1).toInt = i_.toInt + 1 := tI_add rfl (show (1 : Int32).toInt = 1 from by decide) (by omega); omega), (by dsimp only; have e : (i_ + 1).toInt = i_.toInt + 1 := tI_add rfl (show (1 : Int32).toInt = 1 from by decide) (by omega); rw [e, show (i_.toInt + 1).toNat = i_.toInt.toNat + 1 by omega]; exact (ordI_n (by omega) (show ¬ bitF uq i_ by unfold bitF; omega) hm).symm)⟩ (by dsimp only; have e : (i_ + 1).toInt = i_.toInt + 1 := tI_add rfl (show (1 : Int32).toInt = 1 from by decide) (by omega); omega)
        ·
          refine z_run X bu_X0_seatFrom_68_69 ku_X0_seatFrom_68_69 (lv' := [(6, .int i_), (0, .ref wheel), (1, .ref ring), (2, .int 4), (3, .int uq), (4, .int xq), (5, .int yq)]) (st' := [.ref wheel]) rfl ?_
          refine z_get X fl_0_15 du_X0_seatFrom_69 0 rfl (v := .ref ks) rfl ?_
          refine z_run X bu_X0_seatFrom_72_75 ku_X0_seatFrom_72_75 (lv' := [(6, .int i_), (0, .ref wheel), (1, .ref ring), (2, .int 4), (3, .int uq), (4, .int xq), (5, .int yq)]) (st' := [.int i_, .int 4, .ref ks]) rfl ?_
          refine z_iast X du_X0_seatFrom_75 2 rfl (show vp_in _ _ from by unfold vp_in; decide) (ws' := [(wheel, ob 0 [.int cc, .ref kw, .ref ks, .ref kb, wX4, wX5, .long m_]), (kw, aI G 8 fw), (ks, aI G 8 (upd g 4 i_)), (kb, aI G 8 b), (ring, ob 5 [.int hc, g_rp, .ref rx, .ref ry, g_rr, g_rh, g_rd, g_ph, g_po]), (rx, aI G 16 fx), (ry, aI G 16 fy)]) rfl ?_
          refine z_run X bu_X0_seatFrom_76_90 ku_X0_seatFrom_76_90 (lv' := [(6, .int i_), (0, .ref wheel), (1, .ref ring), (2, .int 4), (3, .int uq), (4, .int xq), (5, .int yq)]) (st' := [.ref wheel, .int xq, .int (uq ||| ((1 : Int32) <<< (i_ &&& 31))), .int 5, .ref ring, .ref wheel]) rfl ?_
          refine z_get X fl_0_9 du_X0_seatFrom_90 0 rfl (v := .ref kw) rfl ?_
          refine z_run X bu_X0_seatFrom_93_95 ku_X0_seatFrom_93_95 (lv' := [(6, .int i_), (0, .ref wheel), (1, .ref ring), (2, .int 4), (3, .int uq), (4, .int xq), (5, .int yq)]) (st' := [.int i_, .ref kw, .int xq, .int (uq ||| ((1 : Int32) <<< (i_ &&& 31))), .int 5, .ref ring, .ref wheel]) rfl ?_
          refine z_iald X du_X0_seatFrom_95 1 rfl (vin rfl (by omega) (by omega)) (v := (fw i_.toNatClampNeg)) rfl ?_
          refine z_run X bu_X0_seatFrom_96_97 ku_X0_seatFrom_96_97 (lv' := [(6, .int i_), (0, .ref wheel), (1, .ref ring), (2, .int 4), (3, .int uq), (4, .int xq), (5, .int yq)]) (st' := [.ref ring, .int (fw i_.toNatClampNeg), .int xq, .int (uq ||| ((1 : Int32) <<< (i_ &&& 31))), .int 5, .ref ring, .ref wheel]) rfl ?_
          refine z_getN X fl_0_31 du_X0_seatFrom_97 4 rfl (v := .ref rx) rfl ?_
          refine z_run X bu_X0_seatFrom_100_101 ku_X0_seatFrom_100_101 (lv' := [(6, .int i_), (0, .ref wheel), (1, .ref ring), (2, .int 4), (3, .int uq), (4, .int xq), (5, .int yq)]) (st' := [.int 4, .ref rx, .int (fw i_.toNatClampNeg), .int xq, .int (uq ||| ((1 : Int32) <<< (i_ &&& 31))), .int 5, .ref ring, .ref wheel]) rfl ?_
          refine z_iald X du_X0_seatFrom_101 5 rfl (show vp_in _ _ from by unfold vp_in; decide) (v := (fx (4 : Int32).toNatClampNeg)) rfl ?_
          refine z_run X bu_X0_seatFrom_102_107 ku_X0_seatFrom_102_107 (lv' := [(6, .int i_), (0, .ref wheel), (1, .ref ring), (2, .int 4), (3, .int uq), (4, .int xq), (5, .int yq)]) (st' := [.ref wheel, .int yq, .int (xq + ((fw i_.toNatClampNeg) * (fx (4 : Int32).toNatClampNeg))), .int (uq ||| ((1 : Int32) <<< (i_ &&& 31))), .int 5, .ref ring, .ref wheel]) rfl ?_
          refine z_get X fl_0_9 du_X0_seatFrom_107 0 rfl (v := .ref kw) rfl ?_
          refine z_run X bu_X0_seatFrom_110_112 ku_X0_seatFrom_110_112 (lv' := [(6, .int i_), (0, .ref wheel), (1, .ref ring), (2, .int 4), (3, .int uq), (4, .int xq), (5, .int yq)]) (st' := [.int i_, .ref kw, .int yq, .int (xq + ((fw i_.toNatClampNeg) * (fx (4 : Int32).toNatClampNeg))), .int (uq ||| ((1 : Int32) <<< (i_ &&& 31))), .int 5, .ref ring, .ref wheel]) rfl ?_
          refine z_iald X du_X0_seatFrom_112 1 rfl (vin rfl (by omega) (by omega)) (v := (fw i_.toNatClampNeg)) rfl ?_
          refine z_run X bu_X0_seatFrom_113_114 ku_X0_seatFrom_113_114 (lv' := [(6, .int i_), (0, .ref wheel), (1, .ref ring), (2, .int 4), (3, .int uq), (4, .int xq), (5, .int yq)]) (st' := [.ref ring, .int (fw i_.toNatClampNeg), .int yq, .int (xq + ((fw i_.toNatClampNeg) * (fx (4 : Int32).toNatClampNeg))), .int (uq ||| ((1 : Int32) <<< (i_ &&& 31))), .int 5, .ref ring, .ref wheel]) rfl ?_
          refine z_getN X fl_0_35 du_X0_seatFrom_114 4 rfl (v := .ref ry) rfl ?_
          refine z_run X bu_X0_seatFrom_117_118 ku_X0_seatFrom_117_118 (lv' := [(6, .int i_), (0, .ref wheel), (1, .ref ring), (2, .int 4), (3, .int uq), (4, .int xq), (5, .int yq)]) (st' := [.int 4, .ref ry, .int (fw i_.toNatClampNeg), .int yq, .int (xq + ((fw i_.toNatClampNeg) * (fx (4 : Int32).toNatClampNeg))), .int (uq ||| ((1 : Int32) <<< (i_ &&& 31))), .int 5, .ref ring, .ref wheel]) rfl ?_
          refine z_iald X du_X0_seatFrom_118 6 rfl (show vp_in _ _ from by unfold vp_in; decide) (v := (fy (4 : Int32).toNatClampNeg)) rfl ?_
          refine z_run X bu_X0_seatFrom_119_121 ku_X0_seatFrom_119_121 (lv' := [(6, .int i_), (0, .ref wheel), (1, .ref ring), (2, .int 4), (3, .int uq), (4, .int xq), (5, .int yq)]) (st' := [.int (yq + ((fw i_.toNatClampNeg) * (fy (4 : Int32).toNatClampNeg))), .int (xq + ((fw i_.toNatClampNeg) * (fx (4 : Int32).toNatClampNeg))), .int (uq ||| ((1 : Int32) <<< (i_ &&& 31))), .int 5, .ref ring, .ref wheel]) rfl ?_
          refine z_callV X k_0_45 (cu_X0_seatFrom5 l G wheel cc kw ks kb wX4 wX5 m_ fw (upd g 4 i_) b ring hc g_rp rx ry g_rr g_rh g_rd g_ph g_po fx fy (uq ||| ((1 : Int32) <<< (i_ &&& 31))) (xq + ((fw i_.toNatClampNeg) * (fx (4 : Int32).toNatClampNeg))) (yq + ((fw i_.toNatClampNeg) * (fy (4 : Int32).toNatClampNeg))) cci hcc (by omega)) du_X0_seatFrom_121 0 rfl rfl rfl ⟨Nat.le_of_ble_eq_true rfl, Nat.le_of_ble_eq_true rfl⟩ ⟨Nat.le_of_ble_eq_true rfl, Nat.le_of_ble_eq_true rfl⟩ rfl (rest := []) (As := [.ref ring, .int 5, .int (uq ||| ((1 : Int32) <<< (i_ &&& 31))), .int (xq + ((fw i_.toNatClampNeg) * (fx (4 : Int32).toNatClampNeg))), .int (yq + ((fw i_.toNatClampNeg) * (fy (4 : Int32).toNatClampNeg)))]) rfl (Nat.le_of_ble_eq_true rfl) [0, 1, 2, 3, 4, 5, 6] [] rfl (by decide) (wr := []) rfl (by decide) (by decide) ?_
          rintro _ _ ⟨lq2_4, g2_5, b2_6, f121_7, rfl, rfl⟩
          refine Z.at (pc' := 124) (st' := []) (ws' := [(wheel, ob 0 [.int cc, .ref kw, .ref ks, .ref kb, wX4, wX5, .long lq2_4]), (kw, aI G 8 fw), (ks, aI G 8 g2_5), (kb, aI G 8 b2_6), (ring, ob 5 [.int hc, g_rp, .ref rx, .ref ry, g_rr, g_rh, g_rd, g_ph, g_po]), (rx, aI G 16 fx), (ry, aI G 16 fy)]) (kc' := 0) (ks' := 0) rfl rfl rfl rfl rfl ?_
          rw [show (4 : Int32).toNatClampNeg = 4 from by decide] at f121_7
          refine z_run X bu_X0_seatFrom_124_127 ku_X0_seatFrom_124_127 (lv' := [(6, .int (i_ + 1)), (0, .ref wheel), (1, .ref ring), (2, .int 4), (3, .int uq), (4, .int xq), (5, .int yq)]) (st' := []) rfl ?_
          refine z_goto X du_X0_seatFrom_127 (tgt := 50) (by decide) ?_
          exact ih50 ((i_ + 1), lq2_4, g2_5, b2_6) ⟨(by dsimp only; have e : (i_ + 1).toInt = i_.toInt + 1 := tI_add rfl (show (1 : Int32).toInt = 1 from by decide) (by omega); omega), (by dsimp only; have e : (i_ + 1).toInt = i_.toInt + 1 := tI_add rfl (show (1 : Int32).toInt = 1 from by decide) (by omega); rw [e, show (i_.toInt + 1).toNat = i_.toInt.toNat + 1 by omega]; exact (f121_7).trans (ordI_y (by omega) (show bitF uq i_ by unfold bitF; omega) hm).symm)⟩ (by dsimp only; have e : (i_ + 1).toInt = i_.toInt + 1 := tI_add rfl (show (1 : Int32).toInt = 1 from by decide) (by omega); omega)
    · exact ⟨(by dsimp only; have e0 : (0 : Int32).toInt = 0 := (by decide); omega), (by dsimp only; have e0 : (0 : Int32).toInt = 0 := (by decide); rw [e0]; rfl)⟩
  ·
    refine z_run X bu_X0_seatFrom_8_14 ku_X0_seatFrom_8_14 (lv' := [(0, .ref wheel), (1, .ref ring), (2, .int 4), (3, .int uq), (4, .int xq), (5, .int yq)]) (st' := [.long yq.toInt64, .long xq.toInt64]) rfl ?_
    refine z_callSN X k_0_49 (cg_X10_sizeOf l G xq.toInt64 yq.toInt64) du_X0_seatFrom_14 ⟨Nat.le_of_ble_eq_true rfl, Nat.le_of_ble_eq_true rfl⟩ ⟨Nat.le_of_ble_eq_true rfl, Nat.le_of_ble_eq_true rfl⟩ rfl (rest := []) (As := [.long xq.toInt64, .long yq.toInt64]) rfl (Nat.le_of_ble_eq_true rfl) [] [0, 1, 2, 3, 4, 5, 6] rfl (by decide) (wr := [(wheel, ob 0 [.int cc, .ref kw, .ref ks, .ref kb, wX4, wX5, .long lq]), (kw, aI G 8 fw), (ks, aI G 8 fs), (kb, aI G 8 fb), (ring, ob 5 [.int hc, g_rp, .ref rx, .ref ry, g_rr, g_rh, g_rd, g_ph, g_po]), (rx, aI G 16 fx), (ry, aI G 16 fy)]) rfl (by decide) (by decide) ?_
    rintro _ _ ⟨rz_8, f14_9, rfl, rfl⟩
    refine Z.at (pc' := 17) (st' := [.long rz_8]) (ws' := [(wheel, ob 0 [.int cc, .ref kw, .ref ks, .ref kb, wX4, wX5, .long lq]), (kw, aI G 8 fw), (ks, aI G 8 fs), (kb, aI G 8 fb), (ring, ob 5 [.int hc, g_rp, .ref rx, .ref ry, g_rr, g_rh, g_rd, g_ph, g_po]), (rx, aI G 16 fx), (ry, aI G 16 fy)]) (kc' := 0) (ks' := 0) rfl rfl rfl rfl rfl ?_
    refine z_run X bu_X0_seatFrom_17_22 ku_X0_seatFrom_17_22 (lv' := [(6, .long rz_8), (0, .ref wheel), (1, .ref ring), (2, .int 4), (3, .int uq), (4, .int xq), (5, .int yq)]) (st' := [.ref wheel, .long rz_8]) rfl ?_
    refine z_get X fl_0_41 du_X0_seatFrom_22 0 rfl (v := .long lq) rfl ?_
    refine zl_ge X du_X0_seatFrom_25 du_X0_seatFrom_26 (tgt := 46) (by decide) (a := rz_8.toInt) (b := lq.toInt) rfl rfl (fun c25_10 => ?_) (fun c25_10 => ?_)
    ·
      exact z_vret X rfl du_X0_seatFrom_46 (Nat.le_of_ble_eq_true rfl) (Nat.le_of_ble_eq_true rfl) ⟨lq, fs, fb, (by rw [(ordC_leaf (show ¬ 4 < cci.toNat by omega))]; exact (mn6_f (by have z := congrArg Int64.toInt f14_9; unfold sz; omega)).symm), rfl, rfl⟩
    ·
      refine z_run X bu_X0_seatFrom_29_32 ku_X0_seatFrom_29_32 (lv' := [(6, .long rz_8), (0, .ref wheel), (1, .ref ring), (2, .int 4), (3, .int uq), (4, .int xq), (5, .int yq)]) (st' := [.long rz_8, .ref wheel]) rfl ?_
      refine z_put X fl_0_41 du_X0_seatFrom_32 0 rfl (ty := .long) (T := TX0) (N := 7) rfl (Or.inl rfl) (by decide +kernel) rfl (by rfl) (Nat.le_of_ble_eq_true rfl) (ws' := [(wheel, ob 0 [.int cc, .ref kw, .ref ks, .ref kb, wX4, wX5, .long rz_8]), (kw, aI G 8 fw), (ks, aI G 8 fs), (kb, aI G 8 fb), (ring, ob 5 [.int hc, g_rp, .ref rx, .ref ry, g_rr, g_rh, g_rd, g_ph, g_po]), (rx, aI G 16 fx), (ry, aI G 16 fy)]) rfl ?_
      refine z_run X bu_X0_seatFrom_35_36 ku_X0_seatFrom_35_36 (lv' := [(6, .long rz_8), (0, .ref wheel), (1, .ref ring), (2, .int 4), (3, .int uq), (4, .int xq), (5, .int yq)]) (st' := [.ref wheel]) rfl ?_
      refine z_get X fl_0_15 du_X0_seatFrom_36 0 rfl (v := .ref ks) rfl ?_
      refine z_run X bu_X0_seatFrom_39_40 ku_X0_seatFrom_39_40 (lv' := [(6, .long rz_8), (0, .ref wheel), (1, .ref ring), (2, .int 4), (3, .int uq), (4, .int xq), (5, .int yq)]) (st' := [.ref wheel, .ref ks]) rfl ?_
      refine z_get X fl_0_18 du_X0_seatFrom_40 0 rfl (v := .ref kb) rfl ?_
      refine z_callSN X k_0_53 (cu_X10_copyO l G ks kb fs fb) du_X0_seatFrom_43 ⟨Nat.le_of_ble_eq_true rfl, Nat.le_of_ble_eq_true rfl⟩ ⟨Nat.le_of_ble_eq_true rfl, Nat.le_of_ble_eq_true rfl⟩ rfl (rest := []) (As := [.ref ks, .ref kb]) rfl (Nat.le_of_ble_eq_true rfl) [2, 3] [0, 1, 4, 5, 6] rfl (by decide) (wr := [(wheel, ob 0 [.int cc, .ref kw, .ref ks, .ref kb, wX4, wX5, .long rz_8]), (kw, aI G 8 fw), (ring, ob 5 [.int hc, g_rp, .ref rx, .ref ry, g_rr, g_rh, g_rd, g_ph, g_po]), (rx, aI G 16 fx), (ry, aI G 16 fy)]) rfl (by decide) (by decide) ?_
      rintro _ _ ⟨g2_11, rfl, rfl⟩
      refine Z.at (pc' := 46) (st' := []) (ws' := [(wheel, ob 0 [.int cc, .ref kw, .ref ks, .ref kb, wX4, wX5, .long rz_8]), (kw, aI G 8 fw), (ring, ob 5 [.int hc, g_rp, .ref rx, .ref ry, g_rr, g_rh, g_rd, g_ph, g_po]), (rx, aI G 16 fx), (ry, aI G 16 fy), (ks, aI G 8 fs), (kb, aI G 8 g2_11)]) (kc' := 0) (ks' := 0) rfl rfl rfl rfl rfl ?_
      refine Z.sub (lv' := []) [] rfl [0, 1, 5, 6, 2, 3, 4] (ws' := [(wheel, ob 0 [.int cc, .ref kw, .ref ks, .ref kb, wX4, wX5, .long rz_8]), (kw, aI G 8 fw), (ks, aI G 8 fs), (kb, aI G 8 g2_11), (ring, ob 5 [.int hc, g_rp, .ref rx, .ref ry, g_rr, g_rh, g_rd, g_ph, g_po]), (rx, aI G 16 fx), (ry, aI G 16 fy)]) rfl (by decide) ?_
      exact z_vret X rfl du_X0_seatFrom_46 (Nat.le_of_ble_eq_true rfl) (Nat.le_of_ble_eq_true rfl) ⟨rz_8, fs, g2_11, (by rw [(ordC_leaf (show ¬ 4 < cci.toNat by omega)), f14_9]; exact (mn6_t (show (sz xq yq).toInt < lq.toInt from (by have z : rz_8.toInt = (sz xq yq).toInt := congrArg Int64.toInt f14_9; omega))).symm), rfl, rfl⟩

set_option maxHeartbeats 4000000 in
set_option maxRecDepth 100000 in
theorem cu_X0_seatFrom3 (l : Launch) (G : KG) (wheel : Nat) (cc : Int32) (kw : Nat) (ks : Nat) (kb : Nat) (wX4 : Value) (wX5 : Value) (lq : Int64) (fw : Nat → Int32) (fs : Nat → Int32) (fb : Nat → Int32) (ring : Nat) (hc : Int32) (g_rp : Value) (rx : Nat) (ry : Nat) (g_rr : Value) (g_rh : Value) (g_rd : Value) (g_ph : Value) (g_po : Value) (fx : Nat → Int32) (fy : Nat → Int32) (uq : Int32) (xq : Int32) (yq : Int32) (cci : Int) (hcc : cc.toInt = cci) (hcb : 0 ≤ cci ∧ cci ≤ 8) : Ct l G yX0_seatFrom cX0_seatFrom 8 none { frames := 6, cells := 0, slots := 0, locals := 158 } [.ref wheel, .ref ring, .int 3, .int uq, .int xq, .int yq] [(wheel, ob 0 [.int cc, .ref kw, .ref ks, .ref kb, wX4, wX5, .long lq]), (kw, aI G 8 fw), (ks, aI G 8 fs), (kb, aI G 8 fb), (ring, ob 5 [.int hc, g_rp, .ref rx, .ref ry, g_rr, g_rh, g_rd, g_ph, g_po]), (rx, aI G 16 fx), (ry, aI G 16 fy)] (fun r w1 => ∃ (lq2 : Int64), ∃ (g2 : Nat → Int32), ∃ (b2 : Nat → Int32), (lq2 = ordC fw fx fy cci.toNat 5 3 uq xq yq lq) ∧ r = none ∧ w1 = [(wheel, ob 0 [.int cc, .ref kw, .ref ks, .ref kb, wX4, wX5, .long lq2]), (kw, aI G 8 fw), (ks, aI G 8 g2), (kb, aI G 8 b2), (ring, ob 5 [.int hc, g_rp, .ref rx, .ref ry, g_rr, g_rh, g_rd, g_ph, g_po]), (rx, aI G 16 fx), (ry, aI G 16 fy)]) := by
  refine ct_of [(0, .ref wheel), (1, .ref ring), (2, .int 3), (3, .int uq), (4, .int xq), (5, .int yq)] (by decide) (Nat.le_of_ble_eq_true rfl) rfl ?_
  intro p0 e0 s0 m0 args0 below0 meth0 c0 A X
  refine z_run X bu_X0_seatFrom_0_2 ku_X0_seatFrom_0_2 (lv' := [(0, .ref wheel), (1, .ref ring), (2, .int 3), (3, .int uq), (4, .int xq), (5, .int yq)]) (st' := [.ref wheel, .int 3]) rfl ?_
  refine z_get X fl_0_28 du_X0_seatFrom_2 0 rfl (v := .int cc) rfl ?_
  refine zc_lt X du_X0_seatFrom_5 (tgt := 47) (by decide) (a := 3) (b := cci) (show (3 : Int32).toInt = 3 from by decide) hcc (fun c5_1 => ?_) (fun c5_1 => ?_)
  ·
    refine z_run X bu_X0_seatFrom_47_50 ku_X0_seatFrom_47_50 (lv' := [(6, .int 0), (0, .ref wheel), (1, .ref ring), (2, .int 3), (3, .int uq), (4, .int xq), (5, .int yq)]) (st' := []) rfl ?_
    refine zloop (σ := Int32 × Int64 × (Nat → Int32) × (Nat → Int32)) (fun z => [(6, .int z.1), (0, .ref wheel), (1, .ref ring), (2, .int 3), (3, .int uq), (4, .int xq), (5, .int yq)]) (fun z => []) (fun z => [(wheel, ob 0 [.int cc, .ref kw, .ref ks, .ref kb, wX4, wX5, .long z.2.1]), (kw, aI G 8 fw), (ks, aI G 8 z.2.2.1), (kb, aI G 8 z.2.2.2), (ring, ob 5 [.int hc, g_rp, .ref rx, .ref ry, g_rr, g_rh, g_rd, g_ph, g_po]), (rx, aI G 16 fx), (ry, aI G 16 fy)]) (fun z => (0 ≤ z.1.toInt ∧ z.1.toInt ≤ cci) ∧ (z.2.1 = ordI (fun (k : Int32) (m : Int64) => ordC fw fx fy cci.toNat 4 4 (uq ||| ((1 : Int32) <<< (k &&& 31))) (xq + fw k.toNatClampNeg * fx 3) (yq + fw k.toNatClampNeg * fy 3) m) uq z.1.toInt.toNat lq)) (fun z => (cci - z.1.toInt).toNat) (0, lq, fs, fb) ?_ ?_
    ·
      rintro ⟨i_, m_, g, b⟩ ⟨hi, hm⟩ ih50
      dsimp only at *
      refine z_run X bu_X0_seatFrom_50_53 ku_X0_seatFrom_50_53 (lv' := [(6, .int i_), (0, .ref wheel), (1, .ref ring), (2, .int 3), (3, .int uq), (4, .int xq), (5, .int yq)]) (st' := [.ref wheel, .int i_]) rfl ?_
      refine z_get X fl_0_28 du_X0_seatFrom_53 0 rfl (v := .int cc) rfl ?_
      refine zc_ge X du_X0_seatFrom_56 (tgt := 130) (by decide) (a := i_.toInt) (b := cci) rfl hcc (fun c56_2 => ?_) (fun c56_2 => ?_)
      ·
        exact z_vret X rfl du_X0_seatFrom_130 (Nat.le_of_ble_eq_true rfl) (Nat.le_of_ble_eq_true rfl) ⟨m_, g, b, (by rw [ordC_in (show 3 < cci.toNat by omega)]; rw [show i_.toInt.toNat = cci.toNat by omega] at hm; exact hm), rfl, rfl⟩
      ·
        refine z_run X bu_X0_seatFrom_59_65 ku_X0_seatFrom_59_65 (lv' := [(6, .int i_), (0, .ref wheel), (1, .ref ring), (2, .int 3), (3, .int uq), (4, .int xq), (5, .int yq)]) (st' := [.int ((uq >>> (i_ &&& 31)) &&& 1)]) rfl ?_
        refine zi_ne X du_X0_seatFrom_65 (tgt := 124) (by decide) (a := ((uq >>> (i_ &&& 31)) &&& 1).toInt) rfl (fun c65_3 => ?_) (fun c65_3 => ?_)
        ·
          refine z_run X bu_X0_seatFrom_124_127 ku_X0_seatFrom_124_127 (lv' := [(6, .int (i_ + 1)), (0, .ref wheel), (1, .ref ring), (2, .int 3), (3, .int uq), (4, .int xq), (5, .int yq)]) (st' := []) rfl ?_
          refine z_goto X du_X0_seatFrom_127 (tgt := 50) (by decide) ?_
          exact ih50 ((i_ + 1), m_, g, b) ⟨(by dsimp only; have e : (i_ + 1).toInt = i_.toInt + 1 := tI_add rfl (show (1 : Int32).toInt = 1 from by decide) (by omega); omega), (by dsimp only; have e : (i_ + 1).toInt = i_.toInt + 1 := tI_add rfl (show (1 : Int32).toInt = 1 from by decide) (by omega); rw [e, show (i_.toInt + 1).toNat = i_.toInt.toNat + 1 by omega]; exact (ordI_n (by omega) (show ¬ bitF uq i_ by unfold bitF; omega) hm).symm)⟩ (by dsimp only; have e : (i_ + 1).toInt = i_.toInt + 1 := tI_add rfl (show (1 : Int32).toInt = 1 from by decide) (by omega); omega)
        ·
          refine z_run X bu_X0_seatFrom_68_69 ku_X0_seatFrom_68_69 (lv' := [(6, .int i_), (0, .ref wheel), (1, .ref ring), (2, .int 3), (3, .int uq), (4, .int xq), (5, .int yq)]) (st' := [.ref wheel]) rfl ?_
          refine z_get X fl_0_15 du_X0_seatFrom_69 0 rfl (v := .ref ks) rfl ?_
          refine z_run X bu_X0_seatFrom_72_75 ku_X0_seatFrom_72_75 (lv' := [(6, .int i_), (0, .ref wheel), (1, .ref ring), (2, .int 3), (3, .int uq), (4, .int xq), (5, .int yq)]) (st' := [.int i_, .int 3, .ref ks]) rfl ?_
          refine z_iast X du_X0_seatFrom_75 2 rfl (show vp_in _ _ from by unfold vp_in; decide) (ws' := [(wheel, ob 0 [.int cc, .ref kw, .ref ks, .ref kb, wX4, wX5, .long m_]), (kw, aI G 8 fw), (ks, aI G 8 (upd g 3 i_)), (kb, aI G 8 b), (ring, ob 5 [.int hc, g_rp, .ref rx, .ref ry, g_rr, g_rh, g_rd, g_ph, g_po]), (rx, aI G 16 fx), (ry, aI G 16 fy)]) rfl ?_
          refine z_run X bu_X0_seatFrom_76_90 ku_X0_seatFrom_76_90 (lv' := [(6, .int i_), (0, .ref wheel), (1, .ref ring), (2, .int 3), (3, .int uq), (4, .int xq), (5, .int yq)]) (st' := [.ref wheel, .int xq, .int (uq ||| ((1 : Int32) <<< (i_ &&& 31))), .int 4, .ref ring, .ref wheel]) rfl ?_
          refine z_get X fl_0_9 du_X0_seatFrom_90 0 rfl (v := .ref kw) rfl ?_
          refine z_run X bu_X0_seatFrom_93_95 ku_X0_seatFrom_93_95 (lv' := [(6, .int i_), (0, .ref wheel), (1, .ref ring), (2, .int 3), (3, .int uq), (4, .int xq), (5, .int yq)]) (st' := [.int i_, .ref kw, .int xq, .int (uq ||| ((1 : Int32) <<< (i_ &&& 31))), .int 4, .ref ring, .ref wheel]) rfl ?_
          refine z_iald X du_X0_seatFrom_95 1 rfl (vin rfl (by omega) (by omega)) (v := (fw i_.toNatClampNeg)) rfl ?_
          refine z_run X bu_X0_seatFrom_96_97 ku_X0_seatFrom_96_97 (lv' := [(6, .int i_), (0, .ref wheel), (1, .ref ring), (2, .int 3), (3, .int uq), (4, .int xq), (5, .int yq)]) (st' := [.ref ring, .int (fw i_.toNatClampNeg), .int xq, .int (uq ||| ((1 : Int32) <<< (i_ &&& 31))), .int 4, .ref ring, .ref wheel]) rfl ?_
          refine z_getN X fl_0_31 du_X0_seatFrom_97 4 rfl (v := .ref rx) rfl ?_
          refine z_run X bu_X0_seatFrom_100_101 ku_X0_seatFrom_100_101 (lv' := [(6, .int i_), (0, .ref wheel), (1, .ref ring), (2, .int 3), (3, .int uq), (4, .int xq), (5, .int yq)]) (st' := [.int 3, .ref rx, .int (fw i_.toNatClampNeg), .int xq, .int (uq ||| ((1 : Int32) <<< (i_ &&& 31))), .int 4, .ref ring, .ref wheel]) rfl ?_
          refine z_iald X du_X0_seatFrom_101 5 rfl (show vp_in _ _ from by unfold vp_in; decide) (v := (fx (3 : Int32).toNatClampNeg)) rfl ?_
          refine z_run X bu_X0_seatFrom_102_107 ku_X0_seatFrom_102_107 (lv' := [(6, .int i_), (0, .ref wheel), (1, .ref ring), (2, .int 3), (3, .int uq), (4, .int xq), (5, .int yq)]) (st' := [.ref wheel, .int yq, .int (xq + ((fw i_.toNatClampNeg) * (fx (3 : Int32).toNatClampNeg))), .int (uq ||| ((1 : Int32) <<< (i_ &&& 31))), .int 4, .ref ring, .ref wheel]) rfl ?_
          refine z_get X fl_0_9 du_X0_seatFrom_107 0 rfl (v := .ref kw) rfl ?_
          refine z_run X bu_X0_seatFrom_110_112 ku_X0_seatFrom_110_112 (lv' := [(6, .int i_), (0, .ref wheel), (1, .ref ring), (2, .int 3), (3, .int uq), (4, .int xq), (5, .int yq)]) (st' := [.int i_, .ref kw, .int yq, .int (xq + ((fw i_.toNatClampNeg) * (fx (3 : Int32).toNatClampNeg))), .int (uq ||| ((1 : Int32) <<< (i_ &&& 31))), .int 4, .ref ring, .ref wheel]) rfl ?_
          refine z_iald X du_X0_seatFrom_112 1 rfl (vin rfl (by omega) (by omega)) (v := (fw i_.toNatClampNeg)) rfl ?_
          refine z_run X bu_X0_seatFrom_113_114 ku_X0_seatFrom_113_114 (lv' := [(6, .int i_), (0, .ref wheel), (1, .ref ring), (2, .int 3), (3, .int uq), (4, .int xq), (5, .int yq)]) (st' := [.ref ring, .int (fw i_.toNatClampNeg), .int yq, .int (xq + ((fw i_.toNatClampNeg) * (fx (3 : Int32).toNatClampNeg))), .int (uq ||| ((1 : Int32) <<< (i_ &&& 31))), .int 4, .ref ring, .ref wheel]) rfl ?_
          refine z_getN X fl_0_35 du_X0_seatFrom_114 4 rfl (v := .ref ry) rfl ?_
          refine z_run X bu_X0_seatFrom_117_118 ku_X0_seatFrom_117_118 (lv' := [(6, .int i_), (0, .ref wheel), (1, .ref ring), (2, .int 3), (3, .int uq), (4, .int xq), (5, .int yq)]) (st' := [.int 3, .ref ry, .int (fw i_.toNatClampNeg), .int yq, .int (xq + ((fw i_.toNatClampNeg) * (fx (3 : Int32).toNatClampNeg))), .int (uq ||| ((1 : Int32) <<< (i_ &&& 31))), .int 4, .ref ring, .ref wheel]) rfl ?_
          refine z_iald X du_X0_seatFrom_118 6 rfl (show vp_in _ _ from by unfold vp_in; decide) (v := (fy (3 : Int32).toNatClampNeg)) rfl ?_
          refine z_run X bu_X0_seatFrom_119_121 ku_X0_seatFrom_119_121 (lv' := [(6, .int i_), (0, .ref wheel), (1, .ref ring), (2, .int 3), (3, .int uq), (4, .int xq), (5, .int yq)]) (st' := [.int (yq + ((fw i_.toNatClampNeg) * (fy (3 : Int32).toNatClampNeg))), .int (xq + ((fw i_.toNatClampNeg) * (fx (3 : Int32).toNatClampNeg))), .int (uq ||| ((1 : Int32) <<< (i_ &&& 31))), .int 4, .ref ring, .ref wheel]) rfl ?_
          refine z_callV X k_0_45 (cu_X0_seatFrom4 l G wheel cc kw ks kb wX4 wX5 m_ fw (upd g 3 i_) b ring hc g_rp rx ry g_rr g_rh g_rd g_ph g_po fx fy (uq ||| ((1 : Int32) <<< (i_ &&& 31))) (xq + ((fw i_.toNatClampNeg) * (fx (3 : Int32).toNatClampNeg))) (yq + ((fw i_.toNatClampNeg) * (fy (3 : Int32).toNatClampNeg))) cci hcc (by omega)) du_X0_seatFrom_121 0 rfl rfl rfl ⟨Nat.le_of_ble_eq_true rfl, Nat.le_of_ble_eq_true rfl⟩ ⟨Nat.le_of_ble_eq_true rfl, Nat.le_of_ble_eq_true rfl⟩ rfl (rest := []) (As := [.ref ring, .int 4, .int (uq ||| ((1 : Int32) <<< (i_ &&& 31))), .int (xq + ((fw i_.toNatClampNeg) * (fx (3 : Int32).toNatClampNeg))), .int (yq + ((fw i_.toNatClampNeg) * (fy (3 : Int32).toNatClampNeg)))]) rfl (Nat.le_of_ble_eq_true rfl) [0, 1, 2, 3, 4, 5, 6] [] rfl (by decide) (wr := []) rfl (by decide) (by decide) ?_
          rintro _ _ ⟨lq2_4, g2_5, b2_6, f121_7, rfl, rfl⟩
          refine Z.at (pc' := 124) (st' := []) (ws' := [(wheel, ob 0 [.int cc, .ref kw, .ref ks, .ref kb, wX4, wX5, .long lq2_4]), (kw, aI G 8 fw), (ks, aI G 8 g2_5), (kb, aI G 8 b2_6), (ring, ob 5 [.int hc, g_rp, .ref rx, .ref ry, g_rr, g_rh, g_rd, g_ph, g_po]), (rx, aI G 16 fx), (ry, aI G 16 fy)]) (kc' := 0) (ks' := 0) rfl rfl rfl rfl rfl ?_
          rw [show (3 : Int32).toNatClampNeg = 3 from by decide] at f121_7
          refine z_run X bu_X0_seatFrom_124_127 ku_X0_seatFrom_124_127 (lv' := [(6, .int (i_ + 1)), (0, .ref wheel), (1, .ref ring), (2, .int 3), (3, .int uq), (4, .int xq), (5, .int yq)]) (st' := []) rfl ?_
          refine z_goto X du_X0_seatFrom_127 (tgt := 50) (by decide) ?_
          exact ih50 ((i_ + 1), lq2_4, g2_5, b2_6) ⟨(by dsimp only; have e : (i_ + 1).toInt = i_.toInt + 1 := tI_add rfl (show (1 : Int32).toInt = 1 from by decide) (by omega); omega), (by dsimp only; have e : (i_ + 1).toInt = i_.toInt + 1 := tI_add rfl (show (1 : Int32).toInt = 1 from by decide) (by omega); rw [e, show (i_.toInt + 1).toNat = i_.toInt.toNat + 1 by omega]; exact (f121_7).trans (ordI_y (by omega) (show bitF uq i_ by unfold bitF; omega) hm).symm)⟩ (by dsimp only; have e : (i_ + 1).toInt = i_.toInt + 1 := tI_add rfl (show (1 : Int32).toInt = 1 from by decide) (by omega); omega)
    · exact ⟨(by dsimp only; have e0 : (0 : Int32).toInt = 0 := (by decide); omega), (by dsimp only; have e0 : (0 : Int32).toInt = 0 := (by decide); rw [e0]; rfl)⟩
  ·
    refine z_run X bu_X0_seatFrom_8_14 ku_X0_seatFrom_8_14 (lv' := [(0, .ref wheel), (1, .ref ring), (2, .int 3), (3, .int uq), (4, .int xq), (5, .int yq)]) (st' := [.long yq.toInt64, .long xq.toInt64]) rfl ?_
    refine z_callSN X k_0_49 (cg_X10_sizeOf l G xq.toInt64 yq.toInt64) du_X0_seatFrom_14 ⟨Nat.le_of_ble_eq_true rfl, Nat.le_of_ble_eq_true rfl⟩ ⟨Nat.le_of_ble_eq_true rfl, Nat.le_of_ble_eq_true rfl⟩ rfl (rest := []) (As := [.long xq.toInt64, .long yq.toInt64]) rfl (Nat.le_of_ble_eq_true rfl) [] [0, 1, 2, 3, 4, 5, 6] rfl (by decide) (wr := [(wheel, ob 0 [.int cc, .ref kw, .ref ks, .ref kb, wX4, wX5, .long lq]), (kw, aI G 8 fw), (ks, aI G 8 fs), (kb, aI G 8 fb), (ring, ob 5 [.int hc, g_rp, .ref rx, .ref ry, g_rr, g_rh, g_rd, g_ph, g_po]), (rx, aI G 16 fx), (ry, aI G 16 fy)]) rfl (by decide) (by decide) ?_
    rintro _ _ ⟨rz_8, f14_9, rfl, rfl⟩
    refine Z.at (pc' := 17) (st' := [.long rz_8]) (ws' := [(wheel, ob 0 [.int cc, .ref kw, .ref ks, .ref kb, wX4, wX5, .long lq]), (kw, aI G 8 fw), (ks, aI G 8 fs), (kb, aI G 8 fb), (ring, ob 5 [.int hc, g_rp, .ref rx, .ref ry, g_rr, g_rh, g_rd, g_ph, g_po]), (rx, aI G 16 fx), (ry, aI G 16 fy)]) (kc' := 0) (ks' := 0) rfl rfl rfl rfl rfl ?_
    refine z_run X bu_X0_seatFrom_17_22 ku_X0_seatFrom_17_22 (lv' := [(6, .long rz_8), (0, .ref wheel), (1, .ref ring), (2, .int 3), (3, .int uq), (4, .int xq), (5, .int yq)]) (st' := [.ref wheel, .long rz_8]) rfl ?_
    refine z_get X fl_0_41 du_X0_seatFrom_22 0 rfl (v := .long lq) rfl ?_
    refine zl_ge X du_X0_seatFrom_25 du_X0_seatFrom_26 (tgt := 46) (by decide) (a := rz_8.toInt) (b := lq.toInt) rfl rfl (fun c25_10 => ?_) (fun c25_10 => ?_)
    ·
      exact z_vret X rfl du_X0_seatFrom_46 (Nat.le_of_ble_eq_true rfl) (Nat.le_of_ble_eq_true rfl) ⟨lq, fs, fb, (by rw [(ordC_leaf (show ¬ 3 < cci.toNat by omega))]; exact (mn6_f (by have z := congrArg Int64.toInt f14_9; unfold sz; omega)).symm), rfl, rfl⟩
    ·
      refine z_run X bu_X0_seatFrom_29_32 ku_X0_seatFrom_29_32 (lv' := [(6, .long rz_8), (0, .ref wheel), (1, .ref ring), (2, .int 3), (3, .int uq), (4, .int xq), (5, .int yq)]) (st' := [.long rz_8, .ref wheel]) rfl ?_
      refine z_put X fl_0_41 du_X0_seatFrom_32 0 rfl (ty := .long) (T := TX0) (N := 7) rfl (Or.inl rfl) (by decide +kernel) rfl (by rfl) (Nat.le_of_ble_eq_true rfl) (ws' := [(wheel, ob 0 [.int cc, .ref kw, .ref ks, .ref kb, wX4, wX5, .long rz_8]), (kw, aI G 8 fw), (ks, aI G 8 fs), (kb, aI G 8 fb), (ring, ob 5 [.int hc, g_rp, .ref rx, .ref ry, g_rr, g_rh, g_rd, g_ph, g_po]), (rx, aI G 16 fx), (ry, aI G 16 fy)]) rfl ?_
      refine z_run X bu_X0_seatFrom_35_36 ku_X0_seatFrom_35_36 (lv' := [(6, .long rz_8), (0, .ref wheel), (1, .ref ring), (2, .int 3), (3, .int uq), (4, .int xq), (5, .int yq)]) (st' := [.ref wheel]) rfl ?_
      refine z_get X fl_0_15 du_X0_seatFrom_36 0 rfl (v := .ref ks) rfl ?_
      refine z_run X bu_X0_seatFrom_39_40 ku_X0_seatFrom_39_40 (lv' := [(6, .long rz_8), (0, .ref wheel), (1, .ref ring), (2, .int 3), (3, .int uq), (4, .int xq), (5, .int yq)]) (st' := [.ref wheel, .ref ks]) rfl ?_
      refine z_get X fl_0_18 du_X0_seatFrom_40 0 rfl (v := .ref kb) rfl ?_
      refine z_callSN X k_0_53 (cu_X10_copyO l G ks kb fs fb) du_X0_seatFrom_43 ⟨Nat.le_of_ble_eq_true rfl, Nat.le_of_ble_eq_true rfl⟩ ⟨Nat.le_of_ble_eq_true rfl, Nat.le_of_ble_eq_true rfl⟩ rfl (rest := []) (As := [.ref ks, .ref kb]) rfl (Nat.le_of_ble_eq_true rfl) [2, 3] [0, 1, 4, 5, 6] rfl (by decide) (wr := [(wheel, ob 0 [.int cc, .ref kw, .ref ks, .ref kb, wX4, wX5, .long rz_8]), (kw, aI G 8 fw), (ring, ob 5 [.int hc, g_rp, .ref rx, .ref ry, g_rr, g_rh, g_rd, g_ph, g_po]), (rx, aI G 16 fx), (ry, aI G 16 fy)]) rfl (by decide) (by decide) ?_
      rintro _ _ ⟨g2_11, rfl, rfl⟩
      refine Z.at (pc' := 46) (st' := []) (ws' := [(wheel, ob 0 [.int cc, .ref kw, .ref ks, .ref kb, wX4, wX5, .long rz_8]), (kw, aI G 8 fw), (ring, ob 5 [.int hc, g_rp, .ref rx, .ref ry, g_rr, g_rh, g_rd, g_ph, g_po]), (rx, aI G 16 fx), (ry, aI G 16 fy), (ks, aI G 8 fs), (kb, aI G 8 g2_11)]) (kc' := 0) (ks' := 0) rfl rfl rfl rfl rfl ?_
      refine Z.sub (lv' := []) [] rfl [0, 1, 5, 6, 2, 3, 4] (ws' := [(wheel, ob 0 [.int cc, .ref kw, .ref ks, .ref kb, wX4, wX5, .long rz_8]), (kw, aI G 8 fw), (ks, aI G 8 fs), (kb, aI G 8 g2_11), (ring, ob 5 [.int hc, g_rp, .ref rx, .ref ry, g_rr, g_rh, g_rd, g_ph, g_po]), (rx, aI G 16 fx), (ry, aI G 16 fy)]) rfl (by decide) ?_
      exact z_vret X rfl du_X0_seatFrom_46 (Nat.le_of_ble_eq_true rfl) (Nat.le_of_ble_eq_true rfl) ⟨rz_8, fs, g2_11, (by rw [(ordC_leaf (show ¬ 3 < cci.toNat by omega)), f14_9]; exact (mn6_t (show (sz xq yq).toInt < lq.toInt from (by have z : rz_8.toInt = (sz xq yq).toInt := congrArg Int64.toInt f14_9; omega))).symm), rfl, rfl⟩

set_option maxHeartbeats 4000000 in
set_option maxRecDepth 100000 in
theorem cu_X0_seatFrom2 (l : Launch) (G : KG) (wheel : Nat) (cc : Int32) (kw : Nat) (ks : Nat) (kb : Nat) (wX4 : Value) (wX5 : Value) (lq : Int64) (fw : Nat → Int32) (fs : Nat → Int32) (fb : Nat → Int32) (ring : Nat) (hc : Int32) (g_rp : Value) (rx : Nat) (ry : Nat) (g_rr : Value) (g_rh : Value) (g_rd : Value) (g_ph : Value) (g_po : Value) (fx : Nat → Int32) (fy : Nat → Int32) (uq : Int32) (xq : Int32) (yq : Int32) (cci : Int) (hcc : cc.toInt = cci) (hcb : 0 ≤ cci ∧ cci ≤ 8) : Ct l G yX0_seatFrom cX0_seatFrom 8 none { frames := 7, cells := 0, slots := 0, locals := 185 } [.ref wheel, .ref ring, .int 2, .int uq, .int xq, .int yq] [(wheel, ob 0 [.int cc, .ref kw, .ref ks, .ref kb, wX4, wX5, .long lq]), (kw, aI G 8 fw), (ks, aI G 8 fs), (kb, aI G 8 fb), (ring, ob 5 [.int hc, g_rp, .ref rx, .ref ry, g_rr, g_rh, g_rd, g_ph, g_po]), (rx, aI G 16 fx), (ry, aI G 16 fy)] (fun r w1 => ∃ (lq2 : Int64), ∃ (g2 : Nat → Int32), ∃ (b2 : Nat → Int32), (lq2 = ordC fw fx fy cci.toNat 6 2 uq xq yq lq) ∧ r = none ∧ w1 = [(wheel, ob 0 [.int cc, .ref kw, .ref ks, .ref kb, wX4, wX5, .long lq2]), (kw, aI G 8 fw), (ks, aI G 8 g2), (kb, aI G 8 b2), (ring, ob 5 [.int hc, g_rp, .ref rx, .ref ry, g_rr, g_rh, g_rd, g_ph, g_po]), (rx, aI G 16 fx), (ry, aI G 16 fy)]) := by
  refine ct_of [(0, .ref wheel), (1, .ref ring), (2, .int 2), (3, .int uq), (4, .int xq), (5, .int yq)] (by decide) (Nat.le_of_ble_eq_true rfl) rfl ?_
  intro p0 e0 s0 m0 args0 below0 meth0 c0 A X
  refine z_run X bu_X0_seatFrom_0_2 ku_X0_seatFrom_0_2 (lv' := [(0, .ref wheel), (1, .ref ring), (2, .int 2), (3, .int uq), (4, .int xq), (5, .int yq)]) (st' := [.ref wheel, .int 2]) rfl ?_
  refine z_get X fl_0_28 du_X0_seatFrom_2 0 rfl (v := .int cc) rfl ?_
  refine zc_lt X du_X0_seatFrom_5 (tgt := 47) (by decide) (a := 2) (b := cci) (show (2 : Int32).toInt = 2 from by decide) hcc (fun c5_1 => ?_) (fun c5_1 => ?_)
  ·
    refine z_run X bu_X0_seatFrom_47_50 ku_X0_seatFrom_47_50 (lv' := [(6, .int 0), (0, .ref wheel), (1, .ref ring), (2, .int 2), (3, .int uq), (4, .int xq), (5, .int yq)]) (st' := []) rfl ?_
    refine zloop (σ := Int32 × Int64 × (Nat → Int32) × (Nat → Int32)) (fun z => [(6, .int z.1), (0, .ref wheel), (1, .ref ring), (2, .int 2), (3, .int uq), (4, .int xq), (5, .int yq)]) (fun z => []) (fun z => [(wheel, ob 0 [.int cc, .ref kw, .ref ks, .ref kb, wX4, wX5, .long z.2.1]), (kw, aI G 8 fw), (ks, aI G 8 z.2.2.1), (kb, aI G 8 z.2.2.2), (ring, ob 5 [.int hc, g_rp, .ref rx, .ref ry, g_rr, g_rh, g_rd, g_ph, g_po]), (rx, aI G 16 fx), (ry, aI G 16 fy)]) (fun z => (0 ≤ z.1.toInt ∧ z.1.toInt ≤ cci) ∧ (z.2.1 = ordI (fun (k : Int32) (m : Int64) => ordC fw fx fy cci.toNat 5 3 (uq ||| ((1 : Int32) <<< (k &&& 31))) (xq + fw k.toNatClampNeg * fx 2) (yq + fw k.toNatClampNeg * fy 2) m) uq z.1.toInt.toNat lq)) (fun z => (cci - z.1.toInt).toNat) (0, lq, fs, fb) ?_ ?_
    ·
      rintro ⟨i_, m_, g, b⟩ ⟨hi, hm⟩ ih50
      dsimp only at *
      refine z_run X bu_X0_seatFrom_50_53 ku_X0_seatFrom_50_53 (lv' := [(6, .int i_), (0, .ref wheel), (1, .ref ring), (2, .int 2), (3, .int uq), (4, .int xq), (5, .int yq)]) (st' := [.ref wheel, .int i_]) rfl ?_
      refine z_get X fl_0_28 du_X0_seatFrom_53 0 rfl (v := .int cc) rfl ?_
      refine zc_ge X du_X0_seatFrom_56 (tgt := 130) (by decide) (a := i_.toInt) (b := cci) rfl hcc (fun c56_2 => ?_) (fun c56_2 => ?_)
      ·
        exact z_vret X rfl du_X0_seatFrom_130 (Nat.le_of_ble_eq_true rfl) (Nat.le_of_ble_eq_true rfl) ⟨m_, g, b, (by rw [ordC_in (show 2 < cci.toNat by omega)]; rw [show i_.toInt.toNat = cci.toNat by omega] at hm; exact hm), rfl, rfl⟩
      ·
        refine z_run X bu_X0_seatFrom_59_65 ku_X0_seatFrom_59_65 (lv' := [(6, .int i_), (0, .ref wheel), (1, .ref ring), (2, .int 2), (3, .int uq), (4, .int xq), (5, .int yq)]) (st' := [.int ((uq >>> (i_ &&& 31)) &&& 1)]) rfl ?_
        refine zi_ne X du_X0_seatFrom_65 (tgt := 124) (by decide) (a := ((uq >>> (i_ &&& 31)) &&& 1).toInt) rfl (fun c65_3 => ?_) (fun c65_3 => ?_)
        ·
          refine z_run X bu_X0_seatFrom_124_127 ku_X0_seatFrom_124_127 (lv' := [(6, .int (i_ + 1)), (0, .ref wheel), (1, .ref ring), (2, .int 2), (3, .int uq), (4, .int xq), (5, .int yq)]) (st' := []) rfl ?_
          refine z_goto X du_X0_seatFrom_127 (tgt := 50) (by decide) ?_
          exact ih50 ((i_ + 1), m_, g, b) ⟨(by dsimp only; have e : (i_ + 1).toInt = i_.toInt + 1 := tI_add rfl (show (1 : Int32).toInt = 1 from by decide) (by omega); omega), (by dsimp only; have e : (i_ + 1).toInt = i_.toInt + 1 := tI_add rfl (show (1 : Int32).toInt = 1 from by decide) (by omega); rw [e, show (i_.toInt + 1).toNat = i_.toInt.toNat + 1 by omega]; exact (ordI_n (by omega) (show ¬ bitF uq i_ by unfold bitF; omega) hm).symm)⟩ (by dsimp only; have e : (i_ + 1).toInt = i_.toInt + 1 := tI_add rfl (show (1 : Int32).toInt = 1 from by decide) (by omega); omega)
        ·
          refine z_run X bu_X0_seatFrom_68_69 ku_X0_seatFrom_68_69 (lv' := [(6, .int i_), (0, .ref wheel), (1, .ref ring), (2, .int 2), (3, .int uq), (4, .int xq), (5, .int yq)]) (st' := [.ref wheel]) rfl ?_
          refine z_get X fl_0_15 du_X0_seatFrom_69 0 rfl (v := .ref ks) rfl ?_
          refine z_run X bu_X0_seatFrom_72_75 ku_X0_seatFrom_72_75 (lv' := [(6, .int i_), (0, .ref wheel), (1, .ref ring), (2, .int 2), (3, .int uq), (4, .int xq), (5, .int yq)]) (st' := [.int i_, .int 2, .ref ks]) rfl ?_
          refine z_iast X du_X0_seatFrom_75 2 rfl (show vp_in _ _ from by unfold vp_in; decide) (ws' := [(wheel, ob 0 [.int cc, .ref kw, .ref ks, .ref kb, wX4, wX5, .long m_]), (kw, aI G 8 fw), (ks, aI G 8 (upd g 2 i_)), (kb, aI G 8 b), (ring, ob 5 [.int hc, g_rp, .ref rx, .ref ry, g_rr, g_rh, g_rd, g_ph, g_po]), (rx, aI G 16 fx), (ry, aI G 16 fy)]) rfl ?_
          refine z_run X bu_X0_seatFrom_76_90 ku_X0_seatFrom_76_90 (lv' := [(6, .int i_), (0, .ref wheel), (1, .ref ring), (2, .int 2), (3, .int uq), (4, .int xq), (5, .int yq)]) (st' := [.ref wheel, .int xq, .int (uq ||| ((1 : Int32) <<< (i_ &&& 31))), .int 3, .ref ring, .ref wheel]) rfl ?_
          refine z_get X fl_0_9 du_X0_seatFrom_90 0 rfl (v := .ref kw) rfl ?_
          refine z_run X bu_X0_seatFrom_93_95 ku_X0_seatFrom_93_95 (lv' := [(6, .int i_), (0, .ref wheel), (1, .ref ring), (2, .int 2), (3, .int uq), (4, .int xq), (5, .int yq)]) (st' := [.int i_, .ref kw, .int xq, .int (uq ||| ((1 : Int32) <<< (i_ &&& 31))), .int 3, .ref ring, .ref wheel]) rfl ?_
          refine z_iald X du_X0_seatFrom_95 1 rfl (vin rfl (by omega) (by omega)) (v := (fw i_.toNatClampNeg)) rfl ?_
          refine z_run X bu_X0_seatFrom_96_97 ku_X0_seatFrom_96_97 (lv' := [(6, .int i_), (0, .ref wheel), (1, .ref ring), (2, .int 2), (3, .int uq), (4, .int xq), (5, .int yq)]) (st' := [.ref ring, .int (fw i_.toNatClampNeg), .int xq, .int (uq ||| ((1 : Int32) <<< (i_ &&& 31))), .int 3, .ref ring, .ref wheel]) rfl ?_
          refine z_getN X fl_0_31 du_X0_seatFrom_97 4 rfl (v := .ref rx) rfl ?_
          refine z_run X bu_X0_seatFrom_100_101 ku_X0_seatFrom_100_101 (lv' := [(6, .int i_), (0, .ref wheel), (1, .ref ring), (2, .int 2), (3, .int uq), (4, .int xq), (5, .int yq)]) (st' := [.int 2, .ref rx, .int (fw i_.toNatClampNeg), .int xq, .int (uq ||| ((1 : Int32) <<< (i_ &&& 31))), .int 3, .ref ring, .ref wheel]) rfl ?_
          refine z_iald X du_X0_seatFrom_101 5 rfl (show vp_in _ _ from by unfold vp_in; decide) (v := (fx (2 : Int32).toNatClampNeg)) rfl ?_
          refine z_run X bu_X0_seatFrom_102_107 ku_X0_seatFrom_102_107 (lv' := [(6, .int i_), (0, .ref wheel), (1, .ref ring), (2, .int 2), (3, .int uq), (4, .int xq), (5, .int yq)]) (st' := [.ref wheel, .int yq, .int (xq + ((fw i_.toNatClampNeg) * (fx (2 : Int32).toNatClampNeg))), .int (uq ||| ((1 : Int32) <<< (i_ &&& 31))), .int 3, .ref ring, .ref wheel]) rfl ?_
          refine z_get X fl_0_9 du_X0_seatFrom_107 0 rfl (v := .ref kw) rfl ?_
          refine z_run X bu_X0_seatFrom_110_112 ku_X0_seatFrom_110_112 (lv' := [(6, .int i_), (0, .ref wheel), (1, .ref ring), (2, .int 2), (3, .int uq), (4, .int xq), (5, .int yq)]) (st' := [.int i_, .ref kw, .int yq, .int (xq + ((fw i_.toNatClampNeg) * (fx (2 : Int32).toNatClampNeg))), .int (uq ||| ((1 : Int32) <<< (i_ &&& 31))), .int 3, .ref ring, .ref wheel]) rfl ?_
          refine z_iald X du_X0_seatFrom_112 1 rfl (vin rfl (by omega) (by omega)) (v := (fw i_.toNatClampNeg)) rfl ?_
          refine z_run X bu_X0_seatFrom_113_114 ku_X0_seatFrom_113_114 (lv' := [(6, .int i_), (0, .ref wheel), (1, .ref ring), (2, .int 2), (3, .int uq), (4, .int xq), (5, .int yq)]) (st' := [.ref ring, .int (fw i_.toNatClampNeg), .int yq, .int (xq + ((fw i_.toNatClampNeg) * (fx (2 : Int32).toNatClampNeg))), .int (uq ||| ((1 : Int32) <<< (i_ &&& 31))), .int 3, .ref ring, .ref wheel]) rfl ?_
          refine z_getN X fl_0_35 du_X0_seatFrom_114 4 rfl (v := .ref ry) rfl ?_
          refine z_run X bu_X0_seatFrom_117_118 ku_X0_seatFrom_117_118 (lv' := [(6, .int i_), (0, .ref wheel), (1, .ref ring), (2, .int 2), (3, .int uq), (4, .int xq), (5, .int yq)]) (st' := [.int 2, .ref ry, .int (fw i_.toNatClampNeg), .int yq, .int (xq + ((fw i_.toNatClampNeg) * (fx (2 : Int32).toNatClampNeg))), .int (uq ||| ((1 : Int32) <<< (i_ &&& 31))), .int 3, .ref ring, .ref wheel]) rfl ?_
          refine z_iald X du_X0_seatFrom_118 6 rfl (show vp_in _ _ from by unfold vp_in; decide) (v := (fy (2 : Int32).toNatClampNeg)) rfl ?_
          refine z_run X bu_X0_seatFrom_119_121 ku_X0_seatFrom_119_121 (lv' := [(6, .int i_), (0, .ref wheel), (1, .ref ring), (2, .int 2), (3, .int uq), (4, .int xq), (5, .int yq)]) (st' := [.int (yq + ((fw i_.toNatClampNeg) * (fy (2 : Int32).toNatClampNeg))), .int (xq + ((fw i_.toNatClampNeg) * (fx (2 : Int32).toNatClampNeg))), .int (uq ||| ((1 : Int32) <<< (i_ &&& 31))), .int 3, .ref ring, .ref wheel]) rfl ?_
          refine z_callV X k_0_45 (cu_X0_seatFrom3 l G wheel cc kw ks kb wX4 wX5 m_ fw (upd g 2 i_) b ring hc g_rp rx ry g_rr g_rh g_rd g_ph g_po fx fy (uq ||| ((1 : Int32) <<< (i_ &&& 31))) (xq + ((fw i_.toNatClampNeg) * (fx (2 : Int32).toNatClampNeg))) (yq + ((fw i_.toNatClampNeg) * (fy (2 : Int32).toNatClampNeg))) cci hcc (by omega)) du_X0_seatFrom_121 0 rfl rfl rfl ⟨Nat.le_of_ble_eq_true rfl, Nat.le_of_ble_eq_true rfl⟩ ⟨Nat.le_of_ble_eq_true rfl, Nat.le_of_ble_eq_true rfl⟩ rfl (rest := []) (As := [.ref ring, .int 3, .int (uq ||| ((1 : Int32) <<< (i_ &&& 31))), .int (xq + ((fw i_.toNatClampNeg) * (fx (2 : Int32).toNatClampNeg))), .int (yq + ((fw i_.toNatClampNeg) * (fy (2 : Int32).toNatClampNeg)))]) rfl (Nat.le_of_ble_eq_true rfl) [0, 1, 2, 3, 4, 5, 6] [] rfl (by decide) (wr := []) rfl (by decide) (by decide) ?_
          rintro _ _ ⟨lq2_4, g2_5, b2_6, f121_7, rfl, rfl⟩
          refine Z.at (pc' := 124) (st' := []) (ws' := [(wheel, ob 0 [.int cc, .ref kw, .ref ks, .ref kb, wX4, wX5, .long lq2_4]), (kw, aI G 8 fw), (ks, aI G 8 g2_5), (kb, aI G 8 b2_6), (ring, ob 5 [.int hc, g_rp, .ref rx, .ref ry, g_rr, g_rh, g_rd, g_ph, g_po]), (rx, aI G 16 fx), (ry, aI G 16 fy)]) (kc' := 0) (ks' := 0) rfl rfl rfl rfl rfl ?_
          rw [show (2 : Int32).toNatClampNeg = 2 from by decide] at f121_7
          refine z_run X bu_X0_seatFrom_124_127 ku_X0_seatFrom_124_127 (lv' := [(6, .int (i_ + 1)), (0, .ref wheel), (1, .ref ring), (2, .int 2), (3, .int uq), (4, .int xq), (5, .int yq)]) (st' := []) rfl ?_
          refine z_goto X du_X0_seatFrom_127 (tgt := 50) (by decide) ?_
          exact ih50 ((i_ + 1), lq2_4, g2_5, b2_6) ⟨(by dsimp only; have e : (i_ + 1).toInt = i_.toInt + 1 := tI_add rfl (show (1 : Int32).toInt = 1 from by decide) (by omega); omega), (by dsimp only; have e : (i_ + 1).toInt = i_.toInt + 1 := tI_add rfl (show (1 : Int32).toInt = 1 from by decide) (by omega); rw [e, show (i_.toInt + 1).toNat = i_.toInt.toNat + 1 by omega]; exact (f121_7).trans (ordI_y (by omega) (show bitF uq i_ by unfold bitF; omega) hm).symm)⟩ (by dsimp only; have e : (i_ + 1).toInt = i_.toInt + 1 := tI_add rfl (show (1 : Int32).toInt = 1 from by decide) (by omega); omega)
    · exact ⟨(by dsimp only; have e0 : (0 : Int32).toInt = 0 := (by decide); omega), (by dsimp only; have e0 : (0 : Int32).toInt = 0 := (by decide); rw [e0]; rfl)⟩
  ·
    refine z_run X bu_X0_seatFrom_8_14 ku_X0_seatFrom_8_14 (lv' := [(0, .ref wheel), (1, .ref ring), (2, .int 2), (3, .int uq), (4, .int xq), (5, .int yq)]) (st' := [.long yq.toInt64, .long xq.toInt64]) rfl ?_
    refine z_callSN X k_0_49 (cg_X10_sizeOf l G xq.toInt64 yq.toInt64) du_X0_seatFrom_14 ⟨Nat.le_of_ble_eq_true rfl, Nat.le_of_ble_eq_true rfl⟩ ⟨Nat.le_of_ble_eq_true rfl, Nat.le_of_ble_eq_true rfl⟩ rfl (rest := []) (As := [.long xq.toInt64, .long yq.toInt64]) rfl (Nat.le_of_ble_eq_true rfl) [] [0, 1, 2, 3, 4, 5, 6] rfl (by decide) (wr := [(wheel, ob 0 [.int cc, .ref kw, .ref ks, .ref kb, wX4, wX5, .long lq]), (kw, aI G 8 fw), (ks, aI G 8 fs), (kb, aI G 8 fb), (ring, ob 5 [.int hc, g_rp, .ref rx, .ref ry, g_rr, g_rh, g_rd, g_ph, g_po]), (rx, aI G 16 fx), (ry, aI G 16 fy)]) rfl (by decide) (by decide) ?_
    rintro _ _ ⟨rz_8, f14_9, rfl, rfl⟩
    refine Z.at (pc' := 17) (st' := [.long rz_8]) (ws' := [(wheel, ob 0 [.int cc, .ref kw, .ref ks, .ref kb, wX4, wX5, .long lq]), (kw, aI G 8 fw), (ks, aI G 8 fs), (kb, aI G 8 fb), (ring, ob 5 [.int hc, g_rp, .ref rx, .ref ry, g_rr, g_rh, g_rd, g_ph, g_po]), (rx, aI G 16 fx), (ry, aI G 16 fy)]) (kc' := 0) (ks' := 0) rfl rfl rfl rfl rfl ?_
    refine z_run X bu_X0_seatFrom_17_22 ku_X0_seatFrom_17_22 (lv' := [(6, .long rz_8), (0, .ref wheel), (1, .ref ring), (2, .int 2), (3, .int uq), (4, .int xq), (5, .int yq)]) (st' := [.ref wheel, .long rz_8]) rfl ?_
    refine z_get X fl_0_41 du_X0_seatFrom_22 0 rfl (v := .long lq) rfl ?_
    refine zl_ge X du_X0_seatFrom_25 du_X0_seatFrom_26 (tgt := 46) (by decide) (a := rz_8.toInt) (b := lq.toInt) rfl rfl (fun c25_10 => ?_) (fun c25_10 => ?_)
    ·
      exact z_vret X rfl du_X0_seatFrom_46 (Nat.le_of_ble_eq_true rfl) (Nat.le_of_ble_eq_true rfl) ⟨lq, fs, fb, (by rw [(ordC_leaf (show ¬ 2 < cci.toNat by omega))]; exact (mn6_f (by have z := congrArg Int64.toInt f14_9; unfold sz; omega)).symm), rfl, rfl⟩
    ·
      refine z_run X bu_X0_seatFrom_29_32 ku_X0_seatFrom_29_32 (lv' := [(6, .long rz_8), (0, .ref wheel), (1, .ref ring), (2, .int 2), (3, .int uq), (4, .int xq), (5, .int yq)]) (st' := [.long rz_8, .ref wheel]) rfl ?_
      refine z_put X fl_0_41 du_X0_seatFrom_32 0 rfl (ty := .long) (T := TX0) (N := 7) rfl (Or.inl rfl) (by decide +kernel) rfl (by rfl) (Nat.le_of_ble_eq_true rfl) (ws' := [(wheel, ob 0 [.int cc, .ref kw, .ref ks, .ref kb, wX4, wX5, .long rz_8]), (kw, aI G 8 fw), (ks, aI G 8 fs), (kb, aI G 8 fb), (ring, ob 5 [.int hc, g_rp, .ref rx, .ref ry, g_rr, g_rh, g_rd, g_ph, g_po]), (rx, aI G 16 fx), (ry, aI G 16 fy)]) rfl ?_
      refine z_run X bu_X0_seatFrom_35_36 ku_X0_seatFrom_35_36 (lv' := [(6, .long rz_8), (0, .ref wheel), (1, .ref ring), (2, .int 2), (3, .int uq), (4, .int xq), (5, .int yq)]) (st' := [.ref wheel]) rfl ?_
      refine z_get X fl_0_15 du_X0_seatFrom_36 0 rfl (v := .ref ks) rfl ?_
      refine z_run X bu_X0_seatFrom_39_40 ku_X0_seatFrom_39_40 (lv' := [(6, .long rz_8), (0, .ref wheel), (1, .ref ring), (2, .int 2), (3, .int uq), (4, .int xq), (5, .int yq)]) (st' := [.ref wheel, .ref ks]) rfl ?_
      refine z_get X fl_0_18 du_X0_seatFrom_40 0 rfl (v := .ref kb) rfl ?_
      refine z_callSN X k_0_53 (cu_X10_copyO l G ks kb fs fb) du_X0_seatFrom_43 ⟨Nat.le_of_ble_eq_true rfl, Nat.le_of_ble_eq_true rfl⟩ ⟨Nat.le_of_ble_eq_true rfl, Nat.le_of_ble_eq_true rfl⟩ rfl (rest := []) (As := [.ref ks, .ref kb]) rfl (Nat.le_of_ble_eq_true rfl) [2, 3] [0, 1, 4, 5, 6] rfl (by decide) (wr := [(wheel, ob 0 [.int cc, .ref kw, .ref ks, .ref kb, wX4, wX5, .long rz_8]), (kw, aI G 8 fw), (ring, ob 5 [.int hc, g_rp, .ref rx, .ref ry, g_rr, g_rh, g_rd, g_ph, g_po]), (rx, aI G 16 fx), (ry, aI G 16 fy)]) rfl (by decide) (by decide) ?_
      rintro _ _ ⟨g2_11, rfl, rfl⟩
      refine Z.at (pc' := 46) (st' := []) (ws' := [(wheel, ob 0 [.int cc, .ref kw, .ref ks, .ref kb, wX4, wX5, .long rz_8]), (kw, aI G 8 fw), (ring, ob 5 [.int hc, g_rp, .ref rx, .ref ry, g_rr, g_rh, g_rd, g_ph, g_po]), (rx, aI G 16 fx), (ry, aI G 16 fy), (ks, aI G 8 fs), (kb, aI G 8 g2_11)]) (kc' := 0) (ks' := 0) rfl rfl rfl rfl rfl ?_
      refine Z.sub (lv' := []) [] rfl [0, 1, 5, 6, 2, 3, 4] (ws' := [(wheel, ob 0 [.int cc, .ref kw, .ref ks, .ref kb, wX4, wX5, .long rz_8]), (kw, aI G 8 fw), (ks, aI G 8 fs), (kb, aI G 8 g2_11), (ring, ob 5 [.int hc, g_rp, .ref rx, .ref ry, g_rr, g_rh, g_rd, g_ph, g_po]), (rx, aI G 16 fx), (ry, aI G 16 fy)]) rfl (by decide) ?_
      exact z_vret X rfl du_X0_seatFrom_46 (Nat.le_of_ble_eq_true rfl) (Nat.le_of_ble_eq_true rfl) ⟨rz_8, fs, g2_11, (by rw [(ordC_leaf (show ¬ 2 < cci.toNat by omega)), f14_9]; exact (mn6_t (show (sz xq yq).toInt < lq.toInt from (by have z : rz_8.toInt = (sz xq yq).toInt := congrArg Int64.toInt f14_9; omega))).symm), rfl, rfl⟩

set_option maxHeartbeats 4000000 in
set_option maxRecDepth 100000 in
theorem cu_X0_seatFrom1 (l : Launch) (G : KG) (wheel : Nat) (cc : Int32) (kw : Nat) (ks : Nat) (kb : Nat) (wX4 : Value) (wX5 : Value) (lq : Int64) (fw : Nat → Int32) (fs : Nat → Int32) (fb : Nat → Int32) (ring : Nat) (hc : Int32) (g_rp : Value) (rx : Nat) (ry : Nat) (g_rr : Value) (g_rh : Value) (g_rd : Value) (g_ph : Value) (g_po : Value) (fx : Nat → Int32) (fy : Nat → Int32) (uq : Int32) (xq : Int32) (yq : Int32) (cci : Int) (hcc : cc.toInt = cci) (hcb : 0 ≤ cci ∧ cci ≤ 8) : Ct l G yX0_seatFrom cX0_seatFrom 8 none { frames := 8, cells := 0, slots := 0, locals := 212 } [.ref wheel, .ref ring, .int 1, .int uq, .int xq, .int yq] [(wheel, ob 0 [.int cc, .ref kw, .ref ks, .ref kb, wX4, wX5, .long lq]), (kw, aI G 8 fw), (ks, aI G 8 fs), (kb, aI G 8 fb), (ring, ob 5 [.int hc, g_rp, .ref rx, .ref ry, g_rr, g_rh, g_rd, g_ph, g_po]), (rx, aI G 16 fx), (ry, aI G 16 fy)] (fun r w1 => ∃ (lq2 : Int64), ∃ (g2 : Nat → Int32), ∃ (b2 : Nat → Int32), (lq2 = ordC fw fx fy cci.toNat 7 1 uq xq yq lq) ∧ r = none ∧ w1 = [(wheel, ob 0 [.int cc, .ref kw, .ref ks, .ref kb, wX4, wX5, .long lq2]), (kw, aI G 8 fw), (ks, aI G 8 g2), (kb, aI G 8 b2), (ring, ob 5 [.int hc, g_rp, .ref rx, .ref ry, g_rr, g_rh, g_rd, g_ph, g_po]), (rx, aI G 16 fx), (ry, aI G 16 fy)]) := by
  refine ct_of [(0, .ref wheel), (1, .ref ring), (2, .int 1), (3, .int uq), (4, .int xq), (5, .int yq)] (by decide) (Nat.le_of_ble_eq_true rfl) rfl ?_
  intro p0 e0 s0 m0 args0 below0 meth0 c0 A X
  refine z_run X bu_X0_seatFrom_0_2 ku_X0_seatFrom_0_2 (lv' := [(0, .ref wheel), (1, .ref ring), (2, .int 1), (3, .int uq), (4, .int xq), (5, .int yq)]) (st' := [.ref wheel, .int 1]) rfl ?_
  refine z_get X fl_0_28 du_X0_seatFrom_2 0 rfl (v := .int cc) rfl ?_
  refine zc_lt X du_X0_seatFrom_5 (tgt := 47) (by decide) (a := 1) (b := cci) (show (1 : Int32).toInt = 1 from by decide) hcc (fun c5_1 => ?_) (fun c5_1 => ?_)
  ·
    refine z_run X bu_X0_seatFrom_47_50 ku_X0_seatFrom_47_50 (lv' := [(6, .int 0), (0, .ref wheel), (1, .ref ring), (2, .int 1), (3, .int uq), (4, .int xq), (5, .int yq)]) (st' := []) rfl ?_
    refine zloop (σ := Int32 × Int64 × (Nat → Int32) × (Nat → Int32)) (fun z => [(6, .int z.1), (0, .ref wheel), (1, .ref ring), (2, .int 1), (3, .int uq), (4, .int xq), (5, .int yq)]) (fun z => []) (fun z => [(wheel, ob 0 [.int cc, .ref kw, .ref ks, .ref kb, wX4, wX5, .long z.2.1]), (kw, aI G 8 fw), (ks, aI G 8 z.2.2.1), (kb, aI G 8 z.2.2.2), (ring, ob 5 [.int hc, g_rp, .ref rx, .ref ry, g_rr, g_rh, g_rd, g_ph, g_po]), (rx, aI G 16 fx), (ry, aI G 16 fy)]) (fun z => (0 ≤ z.1.toInt ∧ z.1.toInt ≤ cci) ∧ (z.2.1 = ordI (fun (k : Int32) (m : Int64) => ordC fw fx fy cci.toNat 6 2 (uq ||| ((1 : Int32) <<< (k &&& 31))) (xq + fw k.toNatClampNeg * fx 1) (yq + fw k.toNatClampNeg * fy 1) m) uq z.1.toInt.toNat lq)) (fun z => (cci - z.1.toInt).toNat) (0, lq, fs, fb) ?_ ?_
    ·
      rintro ⟨i_, m_, g, b⟩ ⟨hi, hm⟩ ih50
      dsimp only at *
      refine z_run X bu_X0_seatFrom_50_53 ku_X0_seatFrom_50_53 (lv' := [(6, .int i_), (0, .ref wheel), (1, .ref ring), (2, .int 1), (3, .int uq), (4, .int xq), (5, .int yq)]) (st' := [.ref wheel, .int i_]) rfl ?_
      refine z_get X fl_0_28 du_X0_seatFrom_53 0 rfl (v := .int cc) rfl ?_
      refine zc_ge X du_X0_seatFrom_56 (tgt := 130) (by decide) (a := i_.toInt) (b := cci) rfl hcc (fun c56_2 => ?_) (fun c56_2 => ?_)
      ·
        exact z_vret X rfl du_X0_seatFrom_130 (Nat.le_of_ble_eq_true rfl) (Nat.le_of_ble_eq_true rfl) ⟨m_, g, b, (by rw [ordC_in (show 1 < cci.toNat by omega)]; rw [show i_.toInt.toNat = cci.toNat by omega] at hm; exact hm), rfl, rfl⟩
      ·
        refine z_run X bu_X0_seatFrom_59_65 ku_X0_seatFrom_59_65 (lv' := [(6, .int i_), (0, .ref wheel), (1, .ref ring), (2, .int 1), (3, .int uq), (4, .int xq), (5, .int yq)]) (st' := [.int ((uq >>> (i_ &&& 31)) &&& 1)]) rfl ?_
        refine zi_ne X du_X0_seatFrom_65 (tgt := 124) (by decide) (a := ((uq >>> (i_ &&& 31)) &&& 1).toInt) rfl (fun c65_3 => ?_) (fun c65_3 => ?_)
        ·
          refine z_run X bu_X0_seatFrom_124_127 ku_X0_seatFrom_124_127 (lv' := [(6, .int (i_ + 1)), (0, .ref wheel), (1, .ref ring), (2, .int 1), (3, .int uq), (4, .int xq), (5, .int yq)]) (st' := []) rfl ?_
          refine z_goto X du_X0_seatFrom_127 (tgt := 50) (by decide) ?_
          exact ih50 ((i_ + 1), m_, g, b) ⟨(by dsimp only; have e : (i_ + 1).toInt = i_.toInt + 1 := tI_add rfl (show (1 : Int32).toInt = 1 from by decide) (by omega); omega), (by dsimp only; have e : (i_ + 1).toInt = i_.toInt + 1 := tI_add rfl (show (1 : Int32).toInt = 1 from by decide) (by omega); rw [e, show (i_.toInt + 1).toNat = i_.toInt.toNat + 1 by omega]; exact (ordI_n (by omega) (show ¬ bitF uq i_ by unfold bitF; omega) hm).symm)⟩ (by dsimp only; have e : (i_ + 1).toInt = i_.toInt + 1 := tI_add rfl (show (1 : Int32).toInt = 1 from by decide) (by omega); omega)
        ·
          refine z_run X bu_X0_seatFrom_68_69 ku_X0_seatFrom_68_69 (lv' := [(6, .int i_), (0, .ref wheel), (1, .ref ring), (2, .int 1), (3, .int uq), (4, .int xq), (5, .int yq)]) (st' := [.ref wheel]) rfl ?_
          refine z_get X fl_0_15 du_X0_seatFrom_69 0 rfl (v := .ref ks) rfl ?_
          refine z_run X bu_X0_seatFrom_72_75 ku_X0_seatFrom_72_75 (lv' := [(6, .int i_), (0, .ref wheel), (1, .ref ring), (2, .int 1), (3, .int uq), (4, .int xq), (5, .int yq)]) (st' := [.int i_, .int 1, .ref ks]) rfl ?_
          refine z_iast X du_X0_seatFrom_75 2 rfl (show vp_in _ _ from by unfold vp_in; decide) (ws' := [(wheel, ob 0 [.int cc, .ref kw, .ref ks, .ref kb, wX4, wX5, .long m_]), (kw, aI G 8 fw), (ks, aI G 8 (upd g 1 i_)), (kb, aI G 8 b), (ring, ob 5 [.int hc, g_rp, .ref rx, .ref ry, g_rr, g_rh, g_rd, g_ph, g_po]), (rx, aI G 16 fx), (ry, aI G 16 fy)]) rfl ?_
          refine z_run X bu_X0_seatFrom_76_90 ku_X0_seatFrom_76_90 (lv' := [(6, .int i_), (0, .ref wheel), (1, .ref ring), (2, .int 1), (3, .int uq), (4, .int xq), (5, .int yq)]) (st' := [.ref wheel, .int xq, .int (uq ||| ((1 : Int32) <<< (i_ &&& 31))), .int 2, .ref ring, .ref wheel]) rfl ?_
          refine z_get X fl_0_9 du_X0_seatFrom_90 0 rfl (v := .ref kw) rfl ?_
          refine z_run X bu_X0_seatFrom_93_95 ku_X0_seatFrom_93_95 (lv' := [(6, .int i_), (0, .ref wheel), (1, .ref ring), (2, .int 1), (3, .int uq), (4, .int xq), (5, .int yq)]) (st' := [.int i_, .ref kw, .int xq, .int (uq ||| ((1 : Int32) <<< (i_ &&& 31))), .int 2, .ref ring, .ref wheel]) rfl ?_
          refine z_iald X du_X0_seatFrom_95 1 rfl (vin rfl (by omega) (by omega)) (v := (fw i_.toNatClampNeg)) rfl ?_
          refine z_run X bu_X0_seatFrom_96_97 ku_X0_seatFrom_96_97 (lv' := [(6, .int i_), (0, .ref wheel), (1, .ref ring), (2, .int 1), (3, .int uq), (4, .int xq), (5, .int yq)]) (st' := [.ref ring, .int (fw i_.toNatClampNeg), .int xq, .int (uq ||| ((1 : Int32) <<< (i_ &&& 31))), .int 2, .ref ring, .ref wheel]) rfl ?_
          refine z_getN X fl_0_31 du_X0_seatFrom_97 4 rfl (v := .ref rx) rfl ?_
          refine z_run X bu_X0_seatFrom_100_101 ku_X0_seatFrom_100_101 (lv' := [(6, .int i_), (0, .ref wheel), (1, .ref ring), (2, .int 1), (3, .int uq), (4, .int xq), (5, .int yq)]) (st' := [.int 1, .ref rx, .int (fw i_.toNatClampNeg), .int xq, .int (uq ||| ((1 : Int32) <<< (i_ &&& 31))), .int 2, .ref ring, .ref wheel]) rfl ?_
          refine z_iald X du_X0_seatFrom_101 5 rfl (show vp_in _ _ from by unfold vp_in; decide) (v := (fx (1 : Int32).toNatClampNeg)) rfl ?_
          refine z_run X bu_X0_seatFrom_102_107 ku_X0_seatFrom_102_107 (lv' := [(6, .int i_), (0, .ref wheel), (1, .ref ring), (2, .int 1), (3, .int uq), (4, .int xq), (5, .int yq)]) (st' := [.ref wheel, .int yq, .int (xq + ((fw i_.toNatClampNeg) * (fx (1 : Int32).toNatClampNeg))), .int (uq ||| ((1 : Int32) <<< (i_ &&& 31))), .int 2, .ref ring, .ref wheel]) rfl ?_
          refine z_get X fl_0_9 du_X0_seatFrom_107 0 rfl (v := .ref kw) rfl ?_
          refine z_run X bu_X0_seatFrom_110_112 ku_X0_seatFrom_110_112 (lv' := [(6, .int i_), (0, .ref wheel), (1, .ref ring), (2, .int 1), (3, .int uq), (4, .int xq), (5, .int yq)]) (st' := [.int i_, .ref kw, .int yq, .int (xq + ((fw i_.toNatClampNeg) * (fx (1 : Int32).toNatClampNeg))), .int (uq ||| ((1 : Int32) <<< (i_ &&& 31))), .int 2, .ref ring, .ref wheel]) rfl ?_
          refine z_iald X du_X0_seatFrom_112 1 rfl (vin rfl (by omega) (by omega)) (v := (fw i_.toNatClampNeg)) rfl ?_
          refine z_run X bu_X0_seatFrom_113_114 ku_X0_seatFrom_113_114 (lv' := [(6, .int i_), (0, .ref wheel), (1, .ref ring), (2, .int 1), (3, .int uq), (4, .int xq), (5, .int yq)]) (st' := [.ref ring, .int (fw i_.toNatClampNeg), .int yq, .int (xq + ((fw i_.toNatClampNeg) * (fx (1 : Int32).toNatClampNeg))), .int (uq ||| ((1 : Int32) <<< (i_ &&& 31))), .int 2, .ref ring, .ref wheel]) rfl ?_
          refine z_getN X fl_0_35 du_X0_seatFrom_114 4 rfl (v := .ref ry) rfl ?_
          refine z_run X bu_X0_seatFrom_117_118 ku_X0_seatFrom_117_118 (lv' := [(6, .int i_), (0, .ref wheel), (1, .ref ring), (2, .int 1), (3, .int uq), (4, .int xq), (5, .int yq)]) (st' := [.int 1, .ref ry, .int (fw i_.toNatClampNeg), .int yq, .int (xq + ((fw i_.toNatClampNeg) * (fx (1 : Int32).toNatClampNeg))), .int (uq ||| ((1 : Int32) <<< (i_ &&& 31))), .int 2, .ref ring, .ref wheel]) rfl ?_
          refine z_iald X du_X0_seatFrom_118 6 rfl (show vp_in _ _ from by unfold vp_in; decide) (v := (fy (1 : Int32).toNatClampNeg)) rfl ?_
          refine z_run X bu_X0_seatFrom_119_121 ku_X0_seatFrom_119_121 (lv' := [(6, .int i_), (0, .ref wheel), (1, .ref ring), (2, .int 1), (3, .int uq), (4, .int xq), (5, .int yq)]) (st' := [.int (yq + ((fw i_.toNatClampNeg) * (fy (1 : Int32).toNatClampNeg))), .int (xq + ((fw i_.toNatClampNeg) * (fx (1 : Int32).toNatClampNeg))), .int (uq ||| ((1 : Int32) <<< (i_ &&& 31))), .int 2, .ref ring, .ref wheel]) rfl ?_
          refine z_callV X k_0_45 (cu_X0_seatFrom2 l G wheel cc kw ks kb wX4 wX5 m_ fw (upd g 1 i_) b ring hc g_rp rx ry g_rr g_rh g_rd g_ph g_po fx fy (uq ||| ((1 : Int32) <<< (i_ &&& 31))) (xq + ((fw i_.toNatClampNeg) * (fx (1 : Int32).toNatClampNeg))) (yq + ((fw i_.toNatClampNeg) * (fy (1 : Int32).toNatClampNeg))) cci hcc (by omega)) du_X0_seatFrom_121 0 rfl rfl rfl ⟨Nat.le_of_ble_eq_true rfl, Nat.le_of_ble_eq_true rfl⟩ ⟨Nat.le_of_ble_eq_true rfl, Nat.le_of_ble_eq_true rfl⟩ rfl (rest := []) (As := [.ref ring, .int 2, .int (uq ||| ((1 : Int32) <<< (i_ &&& 31))), .int (xq + ((fw i_.toNatClampNeg) * (fx (1 : Int32).toNatClampNeg))), .int (yq + ((fw i_.toNatClampNeg) * (fy (1 : Int32).toNatClampNeg)))]) rfl (Nat.le_of_ble_eq_true rfl) [0, 1, 2, 3, 4, 5, 6] [] rfl (by decide) (wr := []) rfl (by decide) (by decide) ?_
          rintro _ _ ⟨lq2_4, g2_5, b2_6, f121_7, rfl, rfl⟩
          refine Z.at (pc' := 124) (st' := []) (ws' := [(wheel, ob 0 [.int cc, .ref kw, .ref ks, .ref kb, wX4, wX5, .long lq2_4]), (kw, aI G 8 fw), (ks, aI G 8 g2_5), (kb, aI G 8 b2_6), (ring, ob 5 [.int hc, g_rp, .ref rx, .ref ry, g_rr, g_rh, g_rd, g_ph, g_po]), (rx, aI G 16 fx), (ry, aI G 16 fy)]) (kc' := 0) (ks' := 0) rfl rfl rfl rfl rfl ?_
          rw [show (1 : Int32).toNatClampNeg = 1 from by decide] at f121_7
          refine z_run X bu_X0_seatFrom_124_127 ku_X0_seatFrom_124_127 (lv' := [(6, .int (i_ + 1)), (0, .ref wheel), (1, .ref ring), (2, .int 1), (3, .int uq), (4, .int xq), (5, .int yq)]) (st' := []) rfl ?_
          refine z_goto X du_X0_seatFrom_127 (tgt := 50) (by decide) ?_
          exact ih50 ((i_ + 1), lq2_4, g2_5, b2_6) ⟨(by dsimp only; have e : (i_ + 1).toInt = i_.toInt + 1 := tI_add rfl (show (1 : Int32).toInt = 1 from by decide) (by omega); omega), (by dsimp only; have e : (i_ + 1).toInt = i_.toInt + 1 := tI_add rfl (show (1 : Int32).toInt = 1 from by decide) (by omega); rw [e, show (i_.toInt + 1).toNat = i_.toInt.toNat + 1 by omega]; exact (f121_7).trans (ordI_y (by omega) (show bitF uq i_ by unfold bitF; omega) hm).symm)⟩ (by dsimp only; have e : (i_ + 1).toInt = i_.toInt + 1 := tI_add rfl (show (1 : Int32).toInt = 1 from by decide) (by omega); omega)
    · exact ⟨(by dsimp only; have e0 : (0 : Int32).toInt = 0 := (by decide); omega), (by dsimp only; have e0 : (0 : Int32).toInt = 0 := (by decide); rw [e0]; rfl)⟩
  ·
    refine z_run X bu_X0_seatFrom_8_14 ku_X0_seatFrom_8_14 (lv' := [(0, .ref wheel), (1, .ref ring), (2, .int 1), (3, .int uq), (4, .int xq), (5, .int yq)]) (st' := [.long yq.toInt64, .long xq.toInt64]) rfl ?_
    refine z_callSN X k_0_49 (cg_X10_sizeOf l G xq.toInt64 yq.toInt64) du_X0_seatFrom_14 ⟨Nat.le_of_ble_eq_true rfl, Nat.le_of_ble_eq_true rfl⟩ ⟨Nat.le_of_ble_eq_true rfl, Nat.le_of_ble_eq_true rfl⟩ rfl (rest := []) (As := [.long xq.toInt64, .long yq.toInt64]) rfl (Nat.le_of_ble_eq_true rfl) [] [0, 1, 2, 3, 4, 5, 6] rfl (by decide) (wr := [(wheel, ob 0 [.int cc, .ref kw, .ref ks, .ref kb, wX4, wX5, .long lq]), (kw, aI G 8 fw), (ks, aI G 8 fs), (kb, aI G 8 fb), (ring, ob 5 [.int hc, g_rp, .ref rx, .ref ry, g_rr, g_rh, g_rd, g_ph, g_po]), (rx, aI G 16 fx), (ry, aI G 16 fy)]) rfl (by decide) (by decide) ?_
    rintro _ _ ⟨rz_8, f14_9, rfl, rfl⟩
    refine Z.at (pc' := 17) (st' := [.long rz_8]) (ws' := [(wheel, ob 0 [.int cc, .ref kw, .ref ks, .ref kb, wX4, wX5, .long lq]), (kw, aI G 8 fw), (ks, aI G 8 fs), (kb, aI G 8 fb), (ring, ob 5 [.int hc, g_rp, .ref rx, .ref ry, g_rr, g_rh, g_rd, g_ph, g_po]), (rx, aI G 16 fx), (ry, aI G 16 fy)]) (kc' := 0) (ks' := 0) rfl rfl rfl rfl rfl ?_
    refine z_run X bu_X0_seatFrom_17_22 ku_X0_seatFrom_17_22 (lv' := [(6, .long rz_8), (0, .ref wheel), (1, .ref ring), (2, .int 1), (3, .int uq), (4, .int xq), (5, .int yq)]) (st' := [.ref wheel, .long rz_8]) rfl ?_
    refine z_get X fl_0_41 du_X0_seatFrom_22 0 rfl (v := .long lq) rfl ?_
    refine zl_ge X du_X0_seatFrom_25 du_X0_seatFrom_26 (tgt := 46) (by decide) (a := rz_8.toInt) (b := lq.toInt) rfl rfl (fun c25_10 => ?_) (fun c25_10 => ?_)
    ·
      exact z_vret X rfl du_X0_seatFrom_46 (Nat.le_of_ble_eq_true rfl) (Nat.le_of_ble_eq_true rfl) ⟨lq, fs, fb, (by rw [(ordC_leaf (show ¬ 1 < cci.toNat by omega))]; exact (mn6_f (by have z := congrArg Int64.toInt f14_9; unfold sz; omega)).symm), rfl, rfl⟩
    ·
      refine z_run X bu_X0_seatFrom_29_32 ku_X0_seatFrom_29_32 (lv' := [(6, .long rz_8), (0, .ref wheel), (1, .ref ring), (2, .int 1), (3, .int uq), (4, .int xq), (5, .int yq)]) (st' := [.long rz_8, .ref wheel]) rfl ?_
      refine z_put X fl_0_41 du_X0_seatFrom_32 0 rfl (ty := .long) (T := TX0) (N := 7) rfl (Or.inl rfl) (by decide +kernel) rfl (by rfl) (Nat.le_of_ble_eq_true rfl) (ws' := [(wheel, ob 0 [.int cc, .ref kw, .ref ks, .ref kb, wX4, wX5, .long rz_8]), (kw, aI G 8 fw), (ks, aI G 8 fs), (kb, aI G 8 fb), (ring, ob 5 [.int hc, g_rp, .ref rx, .ref ry, g_rr, g_rh, g_rd, g_ph, g_po]), (rx, aI G 16 fx), (ry, aI G 16 fy)]) rfl ?_
      refine z_run X bu_X0_seatFrom_35_36 ku_X0_seatFrom_35_36 (lv' := [(6, .long rz_8), (0, .ref wheel), (1, .ref ring), (2, .int 1), (3, .int uq), (4, .int xq), (5, .int yq)]) (st' := [.ref wheel]) rfl ?_
      refine z_get X fl_0_15 du_X0_seatFrom_36 0 rfl (v := .ref ks) rfl ?_
      refine z_run X bu_X0_seatFrom_39_40 ku_X0_seatFrom_39_40 (lv' := [(6, .long rz_8), (0, .ref wheel), (1, .ref ring), (2, .int 1), (3, .int uq), (4, .int xq), (5, .int yq)]) (st' := [.ref wheel, .ref ks]) rfl ?_
      refine z_get X fl_0_18 du_X0_seatFrom_40 0 rfl (v := .ref kb) rfl ?_
      refine z_callSN X k_0_53 (cu_X10_copyO l G ks kb fs fb) du_X0_seatFrom_43 ⟨Nat.le_of_ble_eq_true rfl, Nat.le_of_ble_eq_true rfl⟩ ⟨Nat.le_of_ble_eq_true rfl, Nat.le_of_ble_eq_true rfl⟩ rfl (rest := []) (As := [.ref ks, .ref kb]) rfl (Nat.le_of_ble_eq_true rfl) [2, 3] [0, 1, 4, 5, 6] rfl (by decide) (wr := [(wheel, ob 0 [.int cc, .ref kw, .ref ks, .ref kb, wX4, wX5, .long rz_8]), (kw, aI G 8 fw), (ring, ob 5 [.int hc, g_rp, .ref rx, .ref ry, g_rr, g_rh, g_rd, g_ph, g_po]), (rx, aI G 16 fx), (ry, aI G 16 fy)]) rfl (by decide) (by decide) ?_
      rintro _ _ ⟨g2_11, rfl, rfl⟩
      refine Z.at (pc' := 46) (st' := []) (ws' := [(wheel, ob 0 [.int cc, .ref kw, .ref ks, .ref kb, wX4, wX5, .long rz_8]), (kw, aI G 8 fw), (ring, ob 5 [.int hc, g_rp, .ref rx, .ref ry, g_rr, g_rh, g_rd, g_ph, g_po]), (rx, aI G 16 fx), (ry, aI G 16 fy), (ks, aI G 8 fs), (kb, aI G 8 g2_11)]) (kc' := 0) (ks' := 0) rfl rfl rfl rfl rfl ?_
      refine Z.sub (lv' := []) [] rfl [0, 1, 5, 6, 2, 3, 4] (ws' := [(wheel, ob 0 [.int cc, .ref kw, .ref ks, .ref kb, wX4, wX5, .long rz_8]), (kw, aI G 8 fw), (ks, aI G 8 fs), (kb, aI G 8 g2_11), (ring, ob 5 [.int hc, g_rp, .ref rx, .ref ry, g_rr, g_rh, g_rd, g_ph, g_po]), (rx, aI G 16 fx), (ry, aI G 16 fy)]) rfl (by decide) ?_
      exact z_vret X rfl du_X0_seatFrom_46 (Nat.le_of_ble_eq_true rfl) (Nat.le_of_ble_eq_true rfl) ⟨rz_8, fs, g2_11, (by rw [(ordC_leaf (show ¬ 1 < cci.toNat by omega)), f14_9]; exact (mn6_t (show (sz xq yq).toInt < lq.toInt from (by have z : rz_8.toInt = (sz xq yq).toInt := congrArg Int64.toInt f14_9; omega))).symm), rfl, rfl⟩

set_option maxHeartbeats 4000000 in
set_option maxRecDepth 100000 in
theorem cu_X0_seatFrom0 (l : Launch) (G : KG) (wheel : Nat) (cc : Int32) (kw : Nat) (ks : Nat) (kb : Nat) (wX4 : Value) (wX5 : Value) (lq : Int64) (fw : Nat → Int32) (fs : Nat → Int32) (fb : Nat → Int32) (ring : Nat) (hc : Int32) (g_rp : Value) (rx : Nat) (ry : Nat) (g_rr : Value) (g_rh : Value) (g_rd : Value) (g_ph : Value) (g_po : Value) (fx : Nat → Int32) (fy : Nat → Int32) (uq : Int32) (xq : Int32) (yq : Int32) (cci : Int) (hcc : cc.toInt = cci) (hcb : 0 ≤ cci ∧ cci ≤ 8) : Ct l G yX0_seatFrom cX0_seatFrom 8 none { frames := 9, cells := 0, slots := 0, locals := 239 } [.ref wheel, .ref ring, .int 0, .int uq, .int xq, .int yq] [(wheel, ob 0 [.int cc, .ref kw, .ref ks, .ref kb, wX4, wX5, .long lq]), (kw, aI G 8 fw), (ks, aI G 8 fs), (kb, aI G 8 fb), (ring, ob 5 [.int hc, g_rp, .ref rx, .ref ry, g_rr, g_rh, g_rd, g_ph, g_po]), (rx, aI G 16 fx), (ry, aI G 16 fy)] (fun r w1 => ∃ (lq2 : Int64), ∃ (g2 : Nat → Int32), ∃ (b2 : Nat → Int32), (lq2 = ordC fw fx fy cci.toNat 8 0 uq xq yq lq) ∧ r = none ∧ w1 = [(wheel, ob 0 [.int cc, .ref kw, .ref ks, .ref kb, wX4, wX5, .long lq2]), (kw, aI G 8 fw), (ks, aI G 8 g2), (kb, aI G 8 b2), (ring, ob 5 [.int hc, g_rp, .ref rx, .ref ry, g_rr, g_rh, g_rd, g_ph, g_po]), (rx, aI G 16 fx), (ry, aI G 16 fy)]) := by
  refine ct_of [(0, .ref wheel), (1, .ref ring), (2, .int 0), (3, .int uq), (4, .int xq), (5, .int yq)] (by decide) (Nat.le_of_ble_eq_true rfl) rfl ?_
  intro p0 e0 s0 m0 args0 below0 meth0 c0 A X
  refine z_run X bu_X0_seatFrom_0_2 ku_X0_seatFrom_0_2 (lv' := [(0, .ref wheel), (1, .ref ring), (2, .int 0), (3, .int uq), (4, .int xq), (5, .int yq)]) (st' := [.ref wheel, .int 0]) rfl ?_
  refine z_get X fl_0_28 du_X0_seatFrom_2 0 rfl (v := .int cc) rfl ?_
  refine zc_lt X du_X0_seatFrom_5 (tgt := 47) (by decide) (a := 0) (b := cci) (show (0 : Int32).toInt = 0 from by decide) hcc (fun c5_1 => ?_) (fun c5_1 => ?_)
  ·
    refine z_run X bu_X0_seatFrom_47_50 ku_X0_seatFrom_47_50 (lv' := [(6, .int 0), (0, .ref wheel), (1, .ref ring), (2, .int 0), (3, .int uq), (4, .int xq), (5, .int yq)]) (st' := []) rfl ?_
    refine zloop (σ := Int32 × Int64 × (Nat → Int32) × (Nat → Int32)) (fun z => [(6, .int z.1), (0, .ref wheel), (1, .ref ring), (2, .int 0), (3, .int uq), (4, .int xq), (5, .int yq)]) (fun z => []) (fun z => [(wheel, ob 0 [.int cc, .ref kw, .ref ks, .ref kb, wX4, wX5, .long z.2.1]), (kw, aI G 8 fw), (ks, aI G 8 z.2.2.1), (kb, aI G 8 z.2.2.2), (ring, ob 5 [.int hc, g_rp, .ref rx, .ref ry, g_rr, g_rh, g_rd, g_ph, g_po]), (rx, aI G 16 fx), (ry, aI G 16 fy)]) (fun z => (0 ≤ z.1.toInt ∧ z.1.toInt ≤ cci) ∧ (z.2.1 = ordI (fun (k : Int32) (m : Int64) => ordC fw fx fy cci.toNat 7 1 (uq ||| ((1 : Int32) <<< (k &&& 31))) (xq + fw k.toNatClampNeg * fx 0) (yq + fw k.toNatClampNeg * fy 0) m) uq z.1.toInt.toNat lq)) (fun z => (cci - z.1.toInt).toNat) (0, lq, fs, fb) ?_ ?_
    ·
      rintro ⟨i_, m_, g, b⟩ ⟨hi, hm⟩ ih50
      dsimp only at *
      refine z_run X bu_X0_seatFrom_50_53 ku_X0_seatFrom_50_53 (lv' := [(6, .int i_), (0, .ref wheel), (1, .ref ring), (2, .int 0), (3, .int uq), (4, .int xq), (5, .int yq)]) (st' := [.ref wheel, .int i_]) rfl ?_
      refine z_get X fl_0_28 du_X0_seatFrom_53 0 rfl (v := .int cc) rfl ?_
      refine zc_ge X du_X0_seatFrom_56 (tgt := 130) (by decide) (a := i_.toInt) (b := cci) rfl hcc (fun c56_2 => ?_) (fun c56_2 => ?_)
      ·
        exact z_vret X rfl du_X0_seatFrom_130 (Nat.le_of_ble_eq_true rfl) (Nat.le_of_ble_eq_true rfl) ⟨m_, g, b, (by rw [ordC_in (show 0 < cci.toNat by omega)]; rw [show i_.toInt.toNat = cci.toNat by omega] at hm; exact hm), rfl, rfl⟩
      ·
        refine z_run X bu_X0_seatFrom_59_65 ku_X0_seatFrom_59_65 (lv' := [(6, .int i_), (0, .ref wheel), (1, .ref ring), (2, .int 0), (3, .int uq), (4, .int xq), (5, .int yq)]) (st' := [.int ((uq >>> (i_ &&& 31)) &&& 1)]) rfl ?_
        refine zi_ne X du_X0_seatFrom_65 (tgt := 124) (by decide) (a := ((uq >>> (i_ &&& 31)) &&& 1).toInt) rfl (fun c65_3 => ?_) (fun c65_3 => ?_)
        ·
          refine z_run X bu_X0_seatFrom_124_127 ku_X0_seatFrom_124_127 (lv' := [(6, .int (i_ + 1)), (0, .ref wheel), (1, .ref ring), (2, .int 0), (3, .int uq), (4, .int xq), (5, .int yq)]) (st' := []) rfl ?_
          refine z_goto X du_X0_seatFrom_127 (tgt := 50) (by decide) ?_
          exact ih50 ((i_ + 1), m_, g, b) ⟨(by dsimp only; have e : (i_ + 1).toInt = i_.toInt + 1 := tI_add rfl (show (1 : Int32).toInt = 1 from by decide) (by omega); omega), (by dsimp only; have e : (i_ + 1).toInt = i_.toInt + 1 := tI_add rfl (show (1 : Int32).toInt = 1 from by decide) (by omega); rw [e, show (i_.toInt + 1).toNat = i_.toInt.toNat + 1 by omega]; exact (ordI_n (by omega) (show ¬ bitF uq i_ by unfold bitF; omega) hm).symm)⟩ (by dsimp only; have e : (i_ + 1).toInt = i_.toInt + 1 := tI_add rfl (show (1 : Int32).toInt = 1 from by decide) (by omega); omega)
        ·
          refine z_run X bu_X0_seatFrom_68_69 ku_X0_seatFrom_68_69 (lv' := [(6, .int i_), (0, .ref wheel), (1, .ref ring), (2, .int 0), (3, .int uq), (4, .int xq), (5, .int yq)]) (st' := [.ref wheel]) rfl ?_
          refine z_get X fl_0_15 du_X0_seatFrom_69 0 rfl (v := .ref ks) rfl ?_
          refine z_run X bu_X0_seatFrom_72_75 ku_X0_seatFrom_72_75 (lv' := [(6, .int i_), (0, .ref wheel), (1, .ref ring), (2, .int 0), (3, .int uq), (4, .int xq), (5, .int yq)]) (st' := [.int i_, .int 0, .ref ks]) rfl ?_
          refine z_iast X du_X0_seatFrom_75 2 rfl (show vp_in _ _ from by unfold vp_in; decide) (ws' := [(wheel, ob 0 [.int cc, .ref kw, .ref ks, .ref kb, wX4, wX5, .long m_]), (kw, aI G 8 fw), (ks, aI G 8 (upd g 0 i_)), (kb, aI G 8 b), (ring, ob 5 [.int hc, g_rp, .ref rx, .ref ry, g_rr, g_rh, g_rd, g_ph, g_po]), (rx, aI G 16 fx), (ry, aI G 16 fy)]) rfl ?_
          refine z_run X bu_X0_seatFrom_76_90 ku_X0_seatFrom_76_90 (lv' := [(6, .int i_), (0, .ref wheel), (1, .ref ring), (2, .int 0), (3, .int uq), (4, .int xq), (5, .int yq)]) (st' := [.ref wheel, .int xq, .int (uq ||| ((1 : Int32) <<< (i_ &&& 31))), .int 1, .ref ring, .ref wheel]) rfl ?_
          refine z_get X fl_0_9 du_X0_seatFrom_90 0 rfl (v := .ref kw) rfl ?_
          refine z_run X bu_X0_seatFrom_93_95 ku_X0_seatFrom_93_95 (lv' := [(6, .int i_), (0, .ref wheel), (1, .ref ring), (2, .int 0), (3, .int uq), (4, .int xq), (5, .int yq)]) (st' := [.int i_, .ref kw, .int xq, .int (uq ||| ((1 : Int32) <<< (i_ &&& 31))), .int 1, .ref ring, .ref wheel]) rfl ?_
          refine z_iald X du_X0_seatFrom_95 1 rfl (vin rfl (by omega) (by omega)) (v := (fw i_.toNatClampNeg)) rfl ?_
          refine z_run X bu_X0_seatFrom_96_97 ku_X0_seatFrom_96_97 (lv' := [(6, .int i_), (0, .ref wheel), (1, .ref ring), (2, .int 0), (3, .int uq), (4, .int xq), (5, .int yq)]) (st' := [.ref ring, .int (fw i_.toNatClampNeg), .int xq, .int (uq ||| ((1 : Int32) <<< (i_ &&& 31))), .int 1, .ref ring, .ref wheel]) rfl ?_
          refine z_getN X fl_0_31 du_X0_seatFrom_97 4 rfl (v := .ref rx) rfl ?_
          refine z_run X bu_X0_seatFrom_100_101 ku_X0_seatFrom_100_101 (lv' := [(6, .int i_), (0, .ref wheel), (1, .ref ring), (2, .int 0), (3, .int uq), (4, .int xq), (5, .int yq)]) (st' := [.int 0, .ref rx, .int (fw i_.toNatClampNeg), .int xq, .int (uq ||| ((1 : Int32) <<< (i_ &&& 31))), .int 1, .ref ring, .ref wheel]) rfl ?_
          refine z_iald X du_X0_seatFrom_101 5 rfl (show vp_in _ _ from by unfold vp_in; decide) (v := (fx (0 : Int32).toNatClampNeg)) rfl ?_
          refine z_run X bu_X0_seatFrom_102_107 ku_X0_seatFrom_102_107 (lv' := [(6, .int i_), (0, .ref wheel), (1, .ref ring), (2, .int 0), (3, .int uq), (4, .int xq), (5, .int yq)]) (st' := [.ref wheel, .int yq, .int (xq + ((fw i_.toNatClampNeg) * (fx (0 : Int32).toNatClampNeg))), .int (uq ||| ((1 : Int32) <<< (i_ &&& 31))), .int 1, .ref ring, .ref wheel]) rfl ?_
          refine z_get X fl_0_9 du_X0_seatFrom_107 0 rfl (v := .ref kw) rfl ?_
          refine z_run X bu_X0_seatFrom_110_112 ku_X0_seatFrom_110_112 (lv' := [(6, .int i_), (0, .ref wheel), (1, .ref ring), (2, .int 0), (3, .int uq), (4, .int xq), (5, .int yq)]) (st' := [.int i_, .ref kw, .int yq, .int (xq + ((fw i_.toNatClampNeg) * (fx (0 : Int32).toNatClampNeg))), .int (uq ||| ((1 : Int32) <<< (i_ &&& 31))), .int 1, .ref ring, .ref wheel]) rfl ?_
          refine z_iald X du_X0_seatFrom_112 1 rfl (vin rfl (by omega) (by omega)) (v := (fw i_.toNatClampNeg)) rfl ?_
          refine z_run X bu_X0_seatFrom_113_114 ku_X0_seatFrom_113_114 (lv' := [(6, .int i_), (0, .ref wheel), (1, .ref ring), (2, .int 0), (3, .int uq), (4, .int xq), (5, .int yq)]) (st' := [.ref ring, .int (fw i_.toNatClampNeg), .int yq, .int (xq + ((fw i_.toNatClampNeg) * (fx (0 : Int32).toNatClampNeg))), .int (uq ||| ((1 : Int32) <<< (i_ &&& 31))), .int 1, .ref ring, .ref wheel]) rfl ?_
          refine z_getN X fl_0_35 du_X0_seatFrom_114 4 rfl (v := .ref ry) rfl ?_
          refine z_run X bu_X0_seatFrom_117_118 ku_X0_seatFrom_117_118 (lv' := [(6, .int i_), (0, .ref wheel), (1, .ref ring), (2, .int 0), (3, .int uq), (4, .int xq), (5, .int yq)]) (st' := [.int 0, .ref ry, .int (fw i_.toNatClampNeg), .int yq, .int (xq + ((fw i_.toNatClampNeg) * (fx (0 : Int32).toNatClampNeg))), .int (uq ||| ((1 : Int32) <<< (i_ &&& 31))), .int 1, .ref ring, .ref wheel]) rfl ?_
          refine z_iald X du_X0_seatFrom_118 6 rfl (show vp_in _ _ from by unfold vp_in; decide) (v := (fy (0 : Int32).toNatClampNeg)) rfl ?_
          refine z_run X bu_X0_seatFrom_119_121 ku_X0_seatFrom_119_121 (lv' := [(6, .int i_), (0, .ref wheel), (1, .ref ring), (2, .int 0), (3, .int uq), (4, .int xq), (5, .int yq)]) (st' := [.int (yq + ((fw i_.toNatClampNeg) * (fy (0 : Int32).toNatClampNeg))), .int (xq + ((fw i_.toNatClampNeg) * (fx (0 : Int32).toNatClampNeg))), .int (uq ||| ((1 : Int32) <<< (i_ &&& 31))), .int 1, .ref ring, .ref wheel]) rfl ?_
          refine z_callV X k_0_45 (cu_X0_seatFrom1 l G wheel cc kw ks kb wX4 wX5 m_ fw (upd g 0 i_) b ring hc g_rp rx ry g_rr g_rh g_rd g_ph g_po fx fy (uq ||| ((1 : Int32) <<< (i_ &&& 31))) (xq + ((fw i_.toNatClampNeg) * (fx (0 : Int32).toNatClampNeg))) (yq + ((fw i_.toNatClampNeg) * (fy (0 : Int32).toNatClampNeg))) cci hcc (by omega)) du_X0_seatFrom_121 0 rfl rfl rfl ⟨Nat.le_of_ble_eq_true rfl, Nat.le_of_ble_eq_true rfl⟩ ⟨Nat.le_of_ble_eq_true rfl, Nat.le_of_ble_eq_true rfl⟩ rfl (rest := []) (As := [.ref ring, .int 1, .int (uq ||| ((1 : Int32) <<< (i_ &&& 31))), .int (xq + ((fw i_.toNatClampNeg) * (fx (0 : Int32).toNatClampNeg))), .int (yq + ((fw i_.toNatClampNeg) * (fy (0 : Int32).toNatClampNeg)))]) rfl (Nat.le_of_ble_eq_true rfl) [0, 1, 2, 3, 4, 5, 6] [] rfl (by decide) (wr := []) rfl (by decide) (by decide) ?_
          rintro _ _ ⟨lq2_4, g2_5, b2_6, f121_7, rfl, rfl⟩
          refine Z.at (pc' := 124) (st' := []) (ws' := [(wheel, ob 0 [.int cc, .ref kw, .ref ks, .ref kb, wX4, wX5, .long lq2_4]), (kw, aI G 8 fw), (ks, aI G 8 g2_5), (kb, aI G 8 b2_6), (ring, ob 5 [.int hc, g_rp, .ref rx, .ref ry, g_rr, g_rh, g_rd, g_ph, g_po]), (rx, aI G 16 fx), (ry, aI G 16 fy)]) (kc' := 0) (ks' := 0) rfl rfl rfl rfl rfl ?_
          rw [show (0 : Int32).toNatClampNeg = 0 from by decide] at f121_7
          refine z_run X bu_X0_seatFrom_124_127 ku_X0_seatFrom_124_127 (lv' := [(6, .int (i_ + 1)), (0, .ref wheel), (1, .ref ring), (2, .int 0), (3, .int uq), (4, .int xq), (5, .int yq)]) (st' := []) rfl ?_
          refine z_goto X du_X0_seatFrom_127 (tgt := 50) (by decide) ?_
          exact ih50 ((i_ + 1), lq2_4, g2_5, b2_6) ⟨(by dsimp only; have e : (i_ + 1).toInt = i_.toInt + 1 := tI_add rfl (show (1 : Int32).toInt = 1 from by decide) (by omega); omega), (by dsimp only; have e : (i_ + 1).toInt = i_.toInt + 1 := tI_add rfl (show (1 : Int32).toInt = 1 from by decide) (by omega); rw [e, show (i_.toInt + 1).toNat = i_.toInt.toNat + 1 by omega]; exact (f121_7).trans (ordI_y (by omega) (show bitF uq i_ by unfold bitF; omega) hm).symm)⟩ (by dsimp only; have e : (i_ + 1).toInt = i_.toInt + 1 := tI_add rfl (show (1 : Int32).toInt = 1 from by decide) (by omega); omega)
    · exact ⟨(by dsimp only; have e0 : (0 : Int32).toInt = 0 := (by decide); omega), (by dsimp only; have e0 : (0 : Int32).toInt = 0 := (by decide); rw [e0]; rfl)⟩
  ·
    refine z_run X bu_X0_seatFrom_8_14 ku_X0_seatFrom_8_14 (lv' := [(0, .ref wheel), (1, .ref ring), (2, .int 0), (3, .int uq), (4, .int xq), (5, .int yq)]) (st' := [.long yq.toInt64, .long xq.toInt64]) rfl ?_
    refine z_callSN X k_0_49 (cg_X10_sizeOf l G xq.toInt64 yq.toInt64) du_X0_seatFrom_14 ⟨Nat.le_of_ble_eq_true rfl, Nat.le_of_ble_eq_true rfl⟩ ⟨Nat.le_of_ble_eq_true rfl, Nat.le_of_ble_eq_true rfl⟩ rfl (rest := []) (As := [.long xq.toInt64, .long yq.toInt64]) rfl (Nat.le_of_ble_eq_true rfl) [] [0, 1, 2, 3, 4, 5, 6] rfl (by decide) (wr := [(wheel, ob 0 [.int cc, .ref kw, .ref ks, .ref kb, wX4, wX5, .long lq]), (kw, aI G 8 fw), (ks, aI G 8 fs), (kb, aI G 8 fb), (ring, ob 5 [.int hc, g_rp, .ref rx, .ref ry, g_rr, g_rh, g_rd, g_ph, g_po]), (rx, aI G 16 fx), (ry, aI G 16 fy)]) rfl (by decide) (by decide) ?_
    rintro _ _ ⟨rz_8, f14_9, rfl, rfl⟩
    refine Z.at (pc' := 17) (st' := [.long rz_8]) (ws' := [(wheel, ob 0 [.int cc, .ref kw, .ref ks, .ref kb, wX4, wX5, .long lq]), (kw, aI G 8 fw), (ks, aI G 8 fs), (kb, aI G 8 fb), (ring, ob 5 [.int hc, g_rp, .ref rx, .ref ry, g_rr, g_rh, g_rd, g_ph, g_po]), (rx, aI G 16 fx), (ry, aI G 16 fy)]) (kc' := 0) (ks' := 0) rfl rfl rfl rfl rfl ?_
    refine z_run X bu_X0_seatFrom_17_22 ku_X0_seatFrom_17_22 (lv' := [(6, .long rz_8), (0, .ref wheel), (1, .ref ring), (2, .int 0), (3, .int uq), (4, .int xq), (5, .int yq)]) (st' := [.ref wheel, .long rz_8]) rfl ?_
    refine z_get X fl_0_41 du_X0_seatFrom_22 0 rfl (v := .long lq) rfl ?_
    refine zl_ge X du_X0_seatFrom_25 du_X0_seatFrom_26 (tgt := 46) (by decide) (a := rz_8.toInt) (b := lq.toInt) rfl rfl (fun c25_10 => ?_) (fun c25_10 => ?_)
    ·
      exact z_vret X rfl du_X0_seatFrom_46 (Nat.le_of_ble_eq_true rfl) (Nat.le_of_ble_eq_true rfl) ⟨lq, fs, fb, (by rw [(ordC_leaf (show ¬ 0 < cci.toNat by omega))]; exact (mn6_f (by have z := congrArg Int64.toInt f14_9; unfold sz; omega)).symm), rfl, rfl⟩
    ·
      refine z_run X bu_X0_seatFrom_29_32 ku_X0_seatFrom_29_32 (lv' := [(6, .long rz_8), (0, .ref wheel), (1, .ref ring), (2, .int 0), (3, .int uq), (4, .int xq), (5, .int yq)]) (st' := [.long rz_8, .ref wheel]) rfl ?_
      refine z_put X fl_0_41 du_X0_seatFrom_32 0 rfl (ty := .long) (T := TX0) (N := 7) rfl (Or.inl rfl) (by decide +kernel) rfl (by rfl) (Nat.le_of_ble_eq_true rfl) (ws' := [(wheel, ob 0 [.int cc, .ref kw, .ref ks, .ref kb, wX4, wX5, .long rz_8]), (kw, aI G 8 fw), (ks, aI G 8 fs), (kb, aI G 8 fb), (ring, ob 5 [.int hc, g_rp, .ref rx, .ref ry, g_rr, g_rh, g_rd, g_ph, g_po]), (rx, aI G 16 fx), (ry, aI G 16 fy)]) rfl ?_
      refine z_run X bu_X0_seatFrom_35_36 ku_X0_seatFrom_35_36 (lv' := [(6, .long rz_8), (0, .ref wheel), (1, .ref ring), (2, .int 0), (3, .int uq), (4, .int xq), (5, .int yq)]) (st' := [.ref wheel]) rfl ?_
      refine z_get X fl_0_15 du_X0_seatFrom_36 0 rfl (v := .ref ks) rfl ?_
      refine z_run X bu_X0_seatFrom_39_40 ku_X0_seatFrom_39_40 (lv' := [(6, .long rz_8), (0, .ref wheel), (1, .ref ring), (2, .int 0), (3, .int uq), (4, .int xq), (5, .int yq)]) (st' := [.ref wheel, .ref ks]) rfl ?_
      refine z_get X fl_0_18 du_X0_seatFrom_40 0 rfl (v := .ref kb) rfl ?_
      refine z_callSN X k_0_53 (cu_X10_copyO l G ks kb fs fb) du_X0_seatFrom_43 ⟨Nat.le_of_ble_eq_true rfl, Nat.le_of_ble_eq_true rfl⟩ ⟨Nat.le_of_ble_eq_true rfl, Nat.le_of_ble_eq_true rfl⟩ rfl (rest := []) (As := [.ref ks, .ref kb]) rfl (Nat.le_of_ble_eq_true rfl) [2, 3] [0, 1, 4, 5, 6] rfl (by decide) (wr := [(wheel, ob 0 [.int cc, .ref kw, .ref ks, .ref kb, wX4, wX5, .long rz_8]), (kw, aI G 8 fw), (ring, ob 5 [.int hc, g_rp, .ref rx, .ref ry, g_rr, g_rh, g_rd, g_ph, g_po]), (rx, aI G 16 fx), (ry, aI G 16 fy)]) rfl (by decide) (by decide) ?_
      rintro _ _ ⟨g2_11, rfl, rfl⟩
      refine Z.at (pc' := 46) (st' := []) (ws' := [(wheel, ob 0 [.int cc, .ref kw, .ref ks, .ref kb, wX4, wX5, .long rz_8]), (kw, aI G 8 fw), (ring, ob 5 [.int hc, g_rp, .ref rx, .ref ry, g_rr, g_rh, g_rd, g_ph, g_po]), (rx, aI G 16 fx), (ry, aI G 16 fy), (ks, aI G 8 fs), (kb, aI G 8 g2_11)]) (kc' := 0) (ks' := 0) rfl rfl rfl rfl rfl ?_
      refine Z.sub (lv' := []) [] rfl [0, 1, 5, 6, 2, 3, 4] (ws' := [(wheel, ob 0 [.int cc, .ref kw, .ref ks, .ref kb, wX4, wX5, .long rz_8]), (kw, aI G 8 fw), (ks, aI G 8 fs), (kb, aI G 8 g2_11), (ring, ob 5 [.int hc, g_rp, .ref rx, .ref ry, g_rr, g_rh, g_rd, g_ph, g_po]), (rx, aI G 16 fx), (ry, aI G 16 fy)]) rfl (by decide) ?_
      exact z_vret X rfl du_X0_seatFrom_46 (Nat.le_of_ble_eq_true rfl) (Nat.le_of_ble_eq_true rfl) ⟨rz_8, fs, g2_11, (by rw [(ordC_leaf (show ¬ 0 < cci.toNat by omega)), f14_9]; exact (mn6_t (show (sz xq yq).toInt < lq.toInt from (by have z : rz_8.toInt = (sz xq yq).toInt := congrArg Int64.toInt f14_9; omega))).symm), rfl, rfl⟩

theorem du_X0_findLeast_1 : decode cX0_findLeast 1 = .ok (.ldc2_w 39, 3) := by decide +kernel
theorem du_X0_findLeast_4 : decode cX0_findLeast 4 = .ok (.putfield 41, 3) := by decide +kernel
theorem du_X0_findLeast_13 : decode cX0_findLeast 13 = .ok (.invokevirtual 45, 3) := by decide +kernel
theorem du_X0_findLeast_16 : decode cX0_findLeast 16 = .ok (.return_, 1) := by decide +kernel
abbrev bu_X0_findLeast_0_1 : ZB := [(.aload_n 0, .null)]
theorem ku_X0_findLeast_0_1 : zchk cX0_findLeast bu_X0_findLeast_0_1 0 = true ∧ zpc bu_X0_findLeast_0_1 0 = 1 := ⟨by decide +kernel, rfl⟩
abbrev bu_X0_findLeast_7_13 : ZB := [(.aload_n 0, .null), (.aload_n 1, .null), (.iconst 0, .int 0), (.iconst 0, .int 0), (.iconst 0, .int 0), (.iconst 0, .int 0)]
theorem ku_X0_findLeast_7_13 : zchk cX0_findLeast bu_X0_findLeast_7_13 7 = true ∧ zpc bu_X0_findLeast_7_13 7 = 13 := ⟨by decide +kernel, rfl⟩
set_option maxHeartbeats 4000000 in
set_option maxRecDepth 100000 in
theorem cu_X0_findLeast (l : Launch) (G : KG) (wheel : Nat) (cc : Int32) (kw : Nat) (ks : Nat) (kb : Nat) (wX4 : Value) (wX5 : Value) (lq : Int64) (fw : Nat → Int32) (fs : Nat → Int32) (fb : Nat → Int32) (ring : Nat) (hc : Int32) (g_rp : Value) (rx : Nat) (ry : Nat) (g_rr : Value) (g_rh : Value) (g_rd : Value) (g_ph : Value) (g_po : Value) (fx : Nat → Int32) (fy : Nat → Int32) (cci : Int) (hcc : cc.toInt = cci) (hcb : 0 ≤ cci ∧ cci ≤ 8) : Ct l G yX0_findLeast cX0_findLeast 2 none { frames := 10, cells := 0, slots := 0, locals := 266 } [.ref wheel, .ref ring] [(wheel, ob 0 [.int cc, .ref kw, .ref ks, .ref kb, wX4, wX5, .long lq]), (kw, aI G 8 fw), (ks, aI G 8 fs), (kb, aI G 8 fb), (ring, ob 5 [.int hc, g_rp, .ref rx, .ref ry, g_rr, g_rh, g_rd, g_ph, g_po]), (rx, aI G 16 fx), (ry, aI G 16 fy)] (fun r w1 => ∃ (lq2 : Int64), ∃ (g2 : Nat → Int32), ∃ (b2 : Nat → Int32), (lq2 = ordC fw fx fy cci.toNat 8 0 0 0 0 9223372036854775807) ∧ r = none ∧ w1 = [(wheel, ob 0 [.int cc, .ref kw, .ref ks, .ref kb, wX4, wX5, .long lq2]), (kw, aI G 8 fw), (ks, aI G 8 g2), (kb, aI G 8 b2), (ring, ob 5 [.int hc, g_rp, .ref rx, .ref ry, g_rr, g_rh, g_rd, g_ph, g_po]), (rx, aI G 16 fx), (ry, aI G 16 fy)]) := by
  refine ct_of [(0, .ref wheel), (1, .ref ring)] (by decide) (Nat.le_of_ble_eq_true rfl) rfl ?_
  intro p0 e0 s0 m0 args0 below0 meth0 c0 A X
  refine z_run X bu_X0_findLeast_0_1 ku_X0_findLeast_0_1 (lv' := [(0, .ref wheel), (1, .ref ring)]) (st' := [.ref wheel]) rfl ?_
  refine z_ldc2 X du_X0_findLeast_1 cn_0_39 ?_
  refine z_put X fl_0_41 du_X0_findLeast_4 0 rfl (ty := .long) (T := TX0) (N := 7) rfl (Or.inl rfl) (by decide +kernel) rfl (by rfl) (Nat.le_of_ble_eq_true rfl) (ws' := [(wheel, ob 0 [.int cc, .ref kw, .ref ks, .ref kb, wX4, wX5, .long 9223372036854775807]), (kw, aI G 8 fw), (ks, aI G 8 fs), (kb, aI G 8 fb), (ring, ob 5 [.int hc, g_rp, .ref rx, .ref ry, g_rr, g_rh, g_rd, g_ph, g_po]), (rx, aI G 16 fx), (ry, aI G 16 fy)]) rfl ?_
  refine z_run X bu_X0_findLeast_7_13 ku_X0_findLeast_7_13 (lv' := [(0, .ref wheel), (1, .ref ring)]) (st' := [.int 0, .int 0, .int 0, .int 0, .ref ring, .ref wheel]) rfl ?_
  refine z_callV X k_0_45 (cu_X0_seatFrom0 l G wheel cc kw ks kb wX4 wX5 9223372036854775807 fw fs fb ring hc g_rp rx ry g_rr g_rh g_rd g_ph g_po fx fy 0 0 0 cci hcc (by omega)) du_X0_findLeast_13 0 rfl rfl rfl ⟨Nat.le_of_ble_eq_true rfl, Nat.le_of_ble_eq_true rfl⟩ ⟨Nat.le_of_ble_eq_true rfl, Nat.le_of_ble_eq_true rfl⟩ rfl (rest := []) (As := [.ref ring, .int 0, .int 0, .int 0, .int 0]) rfl (Nat.le_of_ble_eq_true rfl) [0, 1, 2, 3, 4, 5, 6] [] rfl (by decide) (wr := []) rfl (by decide) (by decide) ?_
  rintro _ _ ⟨lq2_1, g2_2, b2_3, f13_4, rfl, rfl⟩
  refine Z.at (pc' := 16) (st' := []) (ws' := [(wheel, ob 0 [.int cc, .ref kw, .ref ks, .ref kb, wX4, wX5, .long lq2_1]), (kw, aI G 8 fw), (ks, aI G 8 g2_2), (kb, aI G 8 b2_3), (ring, ob 5 [.int hc, g_rp, .ref rx, .ref ry, g_rr, g_rh, g_rd, g_ph, g_po]), (rx, aI G 16 fx), (ry, aI G 16 fy)]) (kc' := 0) (ks' := 0) rfl rfl rfl rfl rfl ?_
  exact z_vret X rfl du_X0_findLeast_16 (Nat.le_of_ble_eq_true rfl) (Nat.le_of_ble_eq_true rfl) ⟨lq2_1, g2_2, b2_3, f13_4, rfl, rfl⟩

set_option maxHeartbeats 4000000 in
set_option maxRecDepth 100000 in
theorem cu_X10_cogsHavePlacesO (l : Launch) (G : KG) (x : Nat) (told : Nat) (x_reader : Value) (ring : Nat) (x_speeds : Value) (wheel : Nat) (x_trials : Value) (x_span : Value) (x_search : Value) (x_kept : Value) (x_crosses : Value) (x_trueMasses : Value) (x_thought : Value) (x_up : Value) (x_low : Value) (x_fits : Value) (x_pulls : Value) (cc : Int32) (kw : Nat) (ks : Nat) (kb : Nat) (wX4 : Value) (wX5 : Value) (lq : Int64) (fw : Nat → Int32) (fs : Nat → Int32) (fb : Nat → Int32) (hc : Int32) (g_rp : Value) (rx : Nat) (ry : Nat) (g_rr : Value) (g_rh : Value) (g_rd : Value) (g_ph : Value) (g_po : Value) (fx : Nat → Int32) (fy : Nat → Int32) (cci : Int) (hci : Int) (hcc : cc.toInt = cci) (hhc : hc.toInt = hci) : Ct l G yX10_cogsHavePlaces cX10_cogsHavePlaces 1 (some .boolean) { frames := 0, cells := 0, slots := 0, locals := 0 } [.ref x] [(x, ob 10 [.ref told, x_reader, .ref ring, x_speeds, .ref wheel, x_trials, x_span, x_search, x_kept, x_crosses, x_trueMasses, x_thought, x_up, x_low, x_fits, x_pulls]), (wheel, ob 0 [.int cc, .ref kw, .ref ks, .ref kb, wX4, wX5, .long lq]), (kw, aI G 8 fw), (ks, aI G 8 fs), (kb, aI G 8 fb), (ring, ob 5 [.int hc, g_rp, .ref rx, .ref ry, g_rr, g_rh, g_rd, g_ph, g_po]), (rx, aI G 16 fx), (ry, aI G 16 fy)] (fun r w1 => r = some (.int (zb (decide (0 < cci ∧ cci ≤ hci)))) ∧ w1 = [(x, ob 10 [.ref told, x_reader, .ref ring, x_speeds, .ref wheel, x_trials, x_span, x_search, x_kept, x_crosses, x_trueMasses, x_thought, x_up, x_low, x_fits, x_pulls]), (wheel, ob 0 [.int cc, .ref kw, .ref ks, .ref kb, wX4, wX5, .long lq]), (kw, aI G 8 fw), (ks, aI G 8 fs), (kb, aI G 8 fb), (ring, ob 5 [.int hc, g_rp, .ref rx, .ref ry, g_rr, g_rh, g_rd, g_ph, g_po]), (rx, aI G 16 fx), (ry, aI G 16 fy)]) := by
  refine ct_of [(0, .ref x)] (by decide) (Nat.le_of_ble_eq_true rfl) rfl ?_
  intro p0 e0 s0 m0 args0 below0 meth0 c0 A X
  refine z_run X bh_X10_cogsHavePlaces_0_1 kh_X10_cogsHavePlaces_0_1 (lv' := [(0, .ref x)]) (st' := [.ref x]) rfl ?_
  refine z_get X fl_10_40 dh_X10_cogsHavePlaces_1 0 rfl (v := .ref wheel) rfl ?_
  refine z_getN X fl_10_467 dh_X10_cogsHavePlaces_4 1 rfl (v := .int cc) rfl ?_
  refine zi_le X dh_X10_cogsHavePlaces_7 (tgt := 31) (by decide) (a := cci) hcc (fun c7_1 => ?_) (fun c7_1 => ?_)
  ·
    refine z_run X bh_X10_cogsHavePlaces_31_32 kh_X10_cogsHavePlaces_31_32 (lv' := [(0, .ref x)]) (st' := [.int 0]) rfl ?_
    exact z_zret X rfl rfl dh_X10_cogsHavePlaces_32 (Nat.le_of_ble_eq_true rfl) (Nat.le_of_ble_eq_true rfl) ⟨(congrArg (fun z => some (Value.int z)) (zb_f (by omega)).symm), rfl⟩
  ·
    refine z_run X bh_X10_cogsHavePlaces_10_11 kh_X10_cogsHavePlaces_10_11 (lv' := [(0, .ref x)]) (st' := [.ref x]) rfl ?_
    refine z_get X fl_10_40 dh_X10_cogsHavePlaces_11 0 rfl (v := .ref wheel) rfl ?_
    refine z_getN X fl_10_467 dh_X10_cogsHavePlaces_14 1 rfl (v := .int cc) rfl ?_
    refine z_run X bh_X10_cogsHavePlaces_17_18 kh_X10_cogsHavePlaces_17_18 (lv' := [(0, .ref x)]) (st' := [.ref x, .int cc]) rfl ?_
    refine z_get X fl_10_26 dh_X10_cogsHavePlaces_18 0 rfl (v := .ref ring) rfl ?_
    refine z_getN X fl_10_136 dh_X10_cogsHavePlaces_21 5 rfl (v := .int hc) rfl ?_
    refine zc_gt X dh_X10_cogsHavePlaces_24 (tgt := 31) (by decide) (a := cci) (b := hci) hcc hhc (fun c24_2 => ?_) (fun c24_2 => ?_)
    ·
      refine z_run X bh_X10_cogsHavePlaces_31_32 kh_X10_cogsHavePlaces_31_32 (lv' := [(0, .ref x)]) (st' := [.int 0]) rfl ?_
      exact z_zret X rfl rfl dh_X10_cogsHavePlaces_32 (Nat.le_of_ble_eq_true rfl) (Nat.le_of_ble_eq_true rfl) ⟨(congrArg (fun z => some (Value.int z)) (zb_f (by omega)).symm), rfl⟩
    ·
      refine z_run X bh_X10_cogsHavePlaces_27_28 kh_X10_cogsHavePlaces_27_28 (lv' := [(0, .ref x)]) (st' := [.int 1]) rfl ?_
      refine z_goto X dh_X10_cogsHavePlaces_28 (tgt := 32) (by decide) ?_
      exact z_zret X rfl rfl dh_X10_cogsHavePlaces_32 (Nat.le_of_ble_eq_true rfl) (Nat.le_of_ble_eq_true rfl) ⟨(congrArg (fun z => some (Value.int z)) (zb_t (by omega)).symm), rfl⟩

theorem du_X10_order_1 : decode cX10_order 1 = .ok (.invokevirtual 452, 3) := by decide +kernel
theorem du_X10_order_4 : decode cX10_order 4 = .ok (.ifCond .ne 7, 3) := by decide +kernel
theorem du_X10_order_12 : decode cX10_order 12 = .ok (.getfield 40, 3) := by decide +kernel
theorem du_X10_order_16 : decode cX10_order 16 = .ok (.getfield 26, 3) := by decide +kernel
theorem du_X10_order_19 : decode cX10_order 19 = .ok (.invokevirtual 464, 3) := by decide +kernel
theorem du_X10_order_23 : decode cX10_order 23 = .ok (.getfield 12, 3) := by decide +kernel
theorem du_X10_order_26 : decode cX10_order 26 = .ok (.invokevirtual 180, 3) := by decide +kernel
theorem du_X10_order_33 : decode cX10_order 33 = .ok (.getfield 40, 3) := by decide +kernel
theorem du_X10_order_36 : decode cX10_order 36 = .ok (.getfield 467, 3) := by decide +kernel
theorem du_X10_order_39 : decode cX10_order 39 = .ok (.if_icmp .ge 26, 3) := by decide +kernel
theorem du_X10_order_66 : decode cX10_order 66 = .ok (.getfield 40, 3) := by decide +kernel
theorem du_X10_order_69 : decode cX10_order 69 = .ok (.getfield 469, 3) := by decide +kernel
theorem du_X10_order_72 : decode cX10_order 72 = .ok (.lreturn, 1) := by decide +kernel
theorem du_X10_order_43 : decode cX10_order 43 = .ok (.getfield 12, 3) := by decide +kernel
theorem du_X10_order_47 : decode cX10_order 47 = .ok (.getfield 40, 3) := by decide +kernel
theorem du_X10_order_50 : decode cX10_order 50 = .ok (.getfield 468, 3) := by decide +kernel
theorem du_X10_order_54 : decode cX10_order 54 = .ok (.iaload, 1) := by decide +kernel
theorem du_X10_order_56 : decode cX10_order 56 = .ok (.invokevirtual 183, 3) := by decide +kernel
theorem du_X10_order_62 : decode cX10_order 62 = .ok (.goto (-31), 3) := by decide +kernel
theorem du_X10_order_7 : decode cX10_order 7 = .ok (.ldc2_w 346, 3) := by decide +kernel
theorem du_X10_order_10 : decode cX10_order 10 = .ok (.lreturn, 1) := by decide +kernel
abbrev bu_X10_order_0_1 : ZB := [(.aload_n 0, .null)]
theorem ku_X10_order_0_1 : zchk cX10_order bu_X10_order_0_1 0 = true ∧ zpc bu_X10_order_0_1 0 = 1 := ⟨by decide +kernel, rfl⟩
abbrev bu_X10_order_11_12 : ZB := [(.aload_n 0, .null)]
theorem ku_X10_order_11_12 : zchk cX10_order bu_X10_order_11_12 11 = true ∧ zpc bu_X10_order_11_12 11 = 12 := ⟨by decide +kernel, rfl⟩
abbrev bu_X10_order_15_16 : ZB := [(.aload_n 0, .null)]
theorem ku_X10_order_15_16 : zchk cX10_order bu_X10_order_15_16 15 = true ∧ zpc bu_X10_order_15_16 15 = 16 := ⟨by decide +kernel, rfl⟩
abbrev bu_X10_order_22_23 : ZB := [(.aload_n 0, .null)]
theorem ku_X10_order_22_23 : zchk cX10_order bu_X10_order_22_23 22 = true ∧ zpc bu_X10_order_22_23 22 = 23 := ⟨by decide +kernel, rfl⟩
abbrev bu_X10_order_29_31 : ZB := [(.iconst 0, .int 0), (.istore_n 1, .null)]
theorem ku_X10_order_29_31 : zchk cX10_order bu_X10_order_29_31 29 = true ∧ zpc bu_X10_order_29_31 29 = 31 := ⟨by decide +kernel, rfl⟩
abbrev bu_X10_order_31_33 : ZB := [(.iload_n 1, .null), (.aload_n 0, .null)]
theorem ku_X10_order_31_33 : zchk cX10_order bu_X10_order_31_33 31 = true ∧ zpc bu_X10_order_31_33 31 = 33 := ⟨by decide +kernel, rfl⟩
abbrev bu_X10_order_65_66 : ZB := [(.aload_n 0, .null)]
theorem ku_X10_order_65_66 : zchk cX10_order bu_X10_order_65_66 65 = true ∧ zpc bu_X10_order_65_66 65 = 66 := ⟨by decide +kernel, rfl⟩
abbrev bu_X10_order_42_43 : ZB := [(.aload_n 0, .null)]
theorem ku_X10_order_42_43 : zchk cX10_order bu_X10_order_42_43 42 = true ∧ zpc bu_X10_order_42_43 42 = 43 := ⟨by decide +kernel, rfl⟩
abbrev bu_X10_order_46_47 : ZB := [(.aload_n 0, .null)]
theorem ku_X10_order_46_47 : zchk cX10_order bu_X10_order_46_47 46 = true ∧ zpc bu_X10_order_46_47 46 = 47 := ⟨by decide +kernel, rfl⟩
abbrev bu_X10_order_53_54 : ZB := [(.iload_n 1, .null)]
theorem ku_X10_order_53_54 : zchk cX10_order bu_X10_order_53_54 53 = true ∧ zpc bu_X10_order_53_54 53 = 54 := ⟨by decide +kernel, rfl⟩
abbrev bu_X10_order_55_56 : ZB := [(.i2l, .null)]
theorem ku_X10_order_55_56 : zchk cX10_order bu_X10_order_55_56 55 = true ∧ zpc bu_X10_order_55_56 55 = 56 := ⟨by decide +kernel, rfl⟩
abbrev bu_X10_order_59_62 : ZB := [(.iinc 1 1, .int 1)]
theorem ku_X10_order_59_62 : zchk cX10_order bu_X10_order_59_62 59 = true ∧ zpc bu_X10_order_59_62 59 = 62 := ⟨by decide +kernel, rfl⟩
set_option maxHeartbeats 4000000 in
set_option maxRecDepth 100000 in
theorem cu_X10_order (l : Launch) (G : KG) (x : Nat) (told : Nat) (x_reader : Value) (ring : Nat) (x_speeds : Value) (wheel : Nat) (x_trials : Value) (x_span : Value) (x_search : Value) (x_kept : Value) (x_crosses : Value) (x_trueMasses : Value) (x_thought : Value) (x_up : Value) (x_low : Value) (x_fits : Value) (x_pulls : Value) (tn : Nat) (tl : Int32) (fn : Nat → Int64) (cc : Int32) (kw : Nat) (ks : Nat) (kb : Nat) (wX4 : Value) (wX5 : Value) (lq : Int64) (fw : Nat → Int32) (fs : Nat → Int32) (fb : Nat → Int32) (hc : Int32) (g_rp : Value) (rx : Nat) (ry : Nat) (g_rr : Value) (g_rh : Value) (g_rd : Value) (g_ph : Value) (g_po : Value) (fx : Nat → Int32) (fy : Nat → Int32) (cci : Int) (hci : Int) (tli : Int) (hcc : cc.toInt = cci) (hhc : hc.toInt = hci) (htl : tl.toInt = tli) (hc0 : 0 ≤ hci ∧ hci ≤ 16) (hcb : 0 ≤ cci ∧ cci ≤ 8) (ht16 : 0 ≤ tli ∧ tli ≤ 16) : Ct l G yX10_order cX10_order 2 (some .long) { frames := 11, cells := 0, slots := 0, locals := 287 } [.ref x] [(x, ob 10 [.ref told, x_reader, .ref ring, x_speeds, .ref wheel, x_trials, x_span, x_search, x_kept, x_crosses, x_trueMasses, x_thought, x_up, x_low, x_fits, x_pulls]), (told, ob 8 [.ref tn, .int tl]), (tn, aJ G 16 fn), (wheel, ob 0 [.int cc, .ref kw, .ref ks, .ref kb, wX4, wX5, .long lq]), (kw, aI G 8 fw), (ks, aI G 8 fs), (kb, aI G 8 fb), (ring, ob 5 [.int hc, g_rp, .ref rx, .ref ry, g_rr, g_rh, g_rd, g_ph, g_po]), (rx, aI G 16 fx), (ry, aI G 16 fy)] (fun r w1 => ∃ (rz : Int64), ∃ (lq2 : Int64), ∃ (g2 : Nat → Int32), ∃ (b2 : Nat → Int32), ∃ (tl2 : Int32), ∃ (fn2 : Nat → Int64), (rz = mOrd fw fx fy cci hci) ∧ r = some (.long rz) ∧ w1 = [(x, ob 10 [.ref told, x_reader, .ref ring, x_speeds, .ref wheel, x_trials, x_span, x_search, x_kept, x_crosses, x_trueMasses, x_thought, x_up, x_low, x_fits, x_pulls]), (told, ob 8 [.ref tn, .int tl2]), (tn, aJ G 16 fn2), (wheel, ob 0 [.int cc, .ref kw, .ref ks, .ref kb, wX4, wX5, .long lq2]), (kw, aI G 8 fw), (ks, aI G 8 g2), (kb, aI G 8 b2), (ring, ob 5 [.int hc, g_rp, .ref rx, .ref ry, g_rr, g_rh, g_rd, g_ph, g_po]), (rx, aI G 16 fx), (ry, aI G 16 fy)]) := by
  refine ct_of [(0, .ref x)] (by decide) (Nat.le_of_ble_eq_true rfl) rfl ?_
  intro p0 e0 s0 m0 args0 below0 meth0 c0 A X
  refine z_run X bu_X10_order_0_1 ku_X10_order_0_1 (lv' := [(0, .ref x)]) (st' := [.ref x]) rfl ?_
  refine z_callV X k_10_452 (cu_X10_cogsHavePlacesO l G x told x_reader ring x_speeds wheel x_trials x_span x_search x_kept x_crosses x_trueMasses x_thought x_up x_low x_fits x_pulls cc kw ks kb wX4 wX5 lq fw fs fb hc g_rp rx ry g_rr g_rh g_rd g_ph g_po fx fy cci hci hcc hhc) du_X10_order_1 0 rfl rfl rfl ⟨Nat.le_of_ble_eq_true rfl, Nat.le_of_ble_eq_true rfl⟩ ⟨Nat.le_of_ble_eq_true rfl, Nat.le_of_ble_eq_true rfl⟩ rfl (rest := []) (As := []) rfl (Nat.le_of_ble_eq_true rfl) [0, 3, 4, 5, 6, 7, 8, 9] [1, 2] rfl (by decide) (wr := [(told, ob 8 [.ref tn, .int tl]), (tn, aJ G 16 fn)]) rfl (by decide) (by decide) ?_
  rintro _ _ ⟨rfl, rfl⟩
  refine Z.at (pc' := 4) (st' := [.int (zb (decide (0 < cci ∧ cci ≤ hci)))]) (ws' := [(told, ob 8 [.ref tn, .int tl]), (tn, aJ G 16 fn), (x, ob 10 [.ref told, x_reader, .ref ring, x_speeds, .ref wheel, x_trials, x_span, x_search, x_kept, x_crosses, x_trueMasses, x_thought, x_up, x_low, x_fits, x_pulls]), (wheel, ob 0 [.int cc, .ref kw, .ref ks, .ref kb, wX4, wX5, .long lq]), (kw, aI G 8 fw), (ks, aI G 8 fs), (kb, aI G 8 fb), (ring, ob 5 [.int hc, g_rp, .ref rx, .ref ry, g_rr, g_rh, g_rd, g_ph, g_po]), (rx, aI G 16 fx), (ry, aI G 16 fy)]) (kc' := 0) (ks' := 0) rfl rfl rfl rfl rfl ?_
  refine zi_ne_zb X du_X10_order_4 (tgt := 11) (by decide) (fun c4_1 => ?_) (fun c4_1 => ?_)
  ·
    refine z_run X bu_X10_order_11_12 ku_X10_order_11_12 (lv' := [(0, .ref x)]) (st' := [.ref x]) rfl ?_
    refine z_get X fl_10_40 du_X10_order_12 2 rfl (v := .ref wheel) rfl ?_
    refine z_run X bu_X10_order_15_16 ku_X10_order_15_16 (lv' := [(0, .ref x)]) (st' := [.ref x, .ref wheel]) rfl ?_
    refine z_get X fl_10_26 du_X10_order_16 2 rfl (v := .ref ring) rfl ?_
    refine z_callV X k_10_464 (cu_X0_findLeast l G wheel cc kw ks kb wX4 wX5 lq fw fs fb ring hc g_rp rx ry g_rr g_rh g_rd g_ph g_po fx fy cci hcc (by omega)) du_X10_order_19 3 rfl rfl rfl ⟨Nat.le_of_ble_eq_true rfl, Nat.le_of_ble_eq_true rfl⟩ ⟨Nat.le_of_ble_eq_true rfl, Nat.le_of_ble_eq_true rfl⟩ rfl (rest := []) (As := [.ref ring]) rfl (Nat.le_of_ble_eq_true rfl) [3, 4, 5, 6, 7, 8, 9] [0, 1, 2] rfl (by decide) (wr := [(told, ob 8 [.ref tn, .int tl]), (tn, aJ G 16 fn), (x, ob 10 [.ref told, x_reader, .ref ring, x_speeds, .ref wheel, x_trials, x_span, x_search, x_kept, x_crosses, x_trueMasses, x_thought, x_up, x_low, x_fits, x_pulls])]) rfl (by decide) (by decide) ?_
    rintro _ _ ⟨lq2_2, g2_3, b2_4, f19_5, rfl, rfl⟩
    refine Z.at (pc' := 22) (st' := []) (ws' := [(told, ob 8 [.ref tn, .int tl]), (tn, aJ G 16 fn), (x, ob 10 [.ref told, x_reader, .ref ring, x_speeds, .ref wheel, x_trials, x_span, x_search, x_kept, x_crosses, x_trueMasses, x_thought, x_up, x_low, x_fits, x_pulls]), (wheel, ob 0 [.int cc, .ref kw, .ref ks, .ref kb, wX4, wX5, .long lq2_2]), (kw, aI G 8 fw), (ks, aI G 8 g2_3), (kb, aI G 8 b2_4), (ring, ob 5 [.int hc, g_rp, .ref rx, .ref ry, g_rr, g_rh, g_rd, g_ph, g_po]), (rx, aI G 16 fx), (ry, aI G 16 fy)]) (kc' := 0) (ks' := 0) rfl rfl rfl rfl rfl ?_
    refine z_run X bu_X10_order_22_23 ku_X10_order_22_23 (lv' := [(0, .ref x)]) (st' := [.ref x]) rfl ?_
    refine z_get X fl_10_12 du_X10_order_23 2 rfl (v := .ref told) rfl ?_
    refine z_callV X k_10_180 (ch_X8_start l G told tn tl fn) du_X10_order_26 0 rfl rfl rfl ⟨Nat.le_of_ble_eq_true rfl, Nat.le_of_ble_eq_true rfl⟩ ⟨Nat.le_of_ble_eq_true rfl, Nat.le_of_ble_eq_true rfl⟩ rfl (rest := []) (As := []) rfl (Nat.le_of_ble_eq_true rfl) [0, 1] [2, 3, 4, 5, 6, 7, 8, 9] rfl (by decide) (wr := [(x, ob 10 [.ref told, x_reader, .ref ring, x_speeds, .ref wheel, x_trials, x_span, x_search, x_kept, x_crosses, x_trueMasses, x_thought, x_up, x_low, x_fits, x_pulls]), (wheel, ob 0 [.int cc, .ref kw, .ref ks, .ref kb, wX4, wX5, .long lq2_2]), (kw, aI G 8 fw), (ks, aI G 8 g2_3), (kb, aI G 8 b2_4), (ring, ob 5 [.int hc, g_rp, .ref rx, .ref ry, g_rr, g_rh, g_rd, g_ph, g_po]), (rx, aI G 16 fx), (ry, aI G 16 fy)]) rfl (by decide) (by decide) ?_
    rintro _ _ ⟨rfl, rfl⟩
    refine Z.at (pc' := 29) (st' := []) (ws' := [(x, ob 10 [.ref told, x_reader, .ref ring, x_speeds, .ref wheel, x_trials, x_span, x_search, x_kept, x_crosses, x_trueMasses, x_thought, x_up, x_low, x_fits, x_pulls]), (wheel, ob 0 [.int cc, .ref kw, .ref ks, .ref kb, wX4, wX5, .long lq2_2]), (kw, aI G 8 fw), (ks, aI G 8 g2_3), (kb, aI G 8 b2_4), (ring, ob 5 [.int hc, g_rp, .ref rx, .ref ry, g_rr, g_rh, g_rd, g_ph, g_po]), (rx, aI G 16 fx), (ry, aI G 16 fy), (told, ob 8 [.ref tn, .int 0]), (tn, aJ G 16 fn)]) (kc' := 0) (ks' := 0) rfl rfl rfl rfl rfl ?_
    refine z_run X bu_X10_order_29_31 ku_X10_order_29_31 (lv' := [(1, .int 0), (0, .ref x)]) (st' := []) rfl ?_
    refine zloop (σ := Int32 × Int32 × (Nat → Int64)) (fun z => [(1, .int z.1), (0, .ref x)]) (fun z => []) (fun z => [(x, ob 10 [.ref told, x_reader, .ref ring, x_speeds, .ref wheel, x_trials, x_span, x_search, x_kept, x_crosses, x_trueMasses, x_thought, x_up, x_low, x_fits, x_pulls]), (wheel, ob 0 [.int cc, .ref kw, .ref ks, .ref kb, wX4, wX5, .long lq2_2]), (kw, aI G 8 fw), (ks, aI G 8 g2_3), (kb, aI G 8 b2_4), (ring, ob 5 [.int hc, g_rp, .ref rx, .ref ry, g_rr, g_rh, g_rd, g_ph, g_po]), (rx, aI G 16 fx), (ry, aI G 16 fy), (told, ob 8 [.ref tn, .int z.2.1]), (tn, aJ G 16 z.2.2)]) (fun z => (0 ≤ z.1.toInt ∧ z.1.toInt ≤ cci) ∧ (0 ≤ z.2.1.toInt ∧ z.2.1.toInt ≤ 16)) (fun z => (cci - z.1.toInt).toNat) (0, 0, fn) ?_ ?_
    ·
      rintro ⟨j_, tl_, fn_⟩ ⟨hj, ht⟩ ih31
      dsimp only at *
      refine z_run X bu_X10_order_31_33 ku_X10_order_31_33 (lv' := [(1, .int j_), (0, .ref x)]) (st' := [.ref x, .int j_]) rfl ?_
      refine z_get X fl_10_40 du_X10_order_33 0 rfl (v := .ref wheel) rfl ?_
      refine z_getN X fl_10_467 du_X10_order_36 1 rfl (v := .int cc) rfl ?_
      refine zc_ge X du_X10_order_39 (tgt := 65) (by decide) (a := j_.toInt) (b := cci) rfl hcc (fun c39_6 => ?_) (fun c39_6 => ?_)
      ·
        refine z_run X bu_X10_order_65_66 ku_X10_order_65_66 (lv' := [(1, .int j_), (0, .ref x)]) (st' := [.ref x]) rfl ?_
        refine z_get X fl_10_40 du_X10_order_66 0 rfl (v := .ref wheel) rfl ?_
        refine z_getN X fl_10_469 du_X10_order_69 1 rfl (v := .long lq2_2) rfl ?_
        refine Z.sub (lv' := []) [] rfl [0, 8, 9, 1, 2, 3, 4, 5, 6, 7] (ws' := [(x, ob 10 [.ref told, x_reader, .ref ring, x_speeds, .ref wheel, x_trials, x_span, x_search, x_kept, x_crosses, x_trueMasses, x_thought, x_up, x_low, x_fits, x_pulls]), (told, ob 8 [.ref tn, .int tl_]), (tn, aJ G 16 fn_), (wheel, ob 0 [.int cc, .ref kw, .ref ks, .ref kb, wX4, wX5, .long lq2_2]), (kw, aI G 8 fw), (ks, aI G 8 g2_3), (kb, aI G 8 b2_4), (ring, ob 5 [.int hc, g_rp, .ref rx, .ref ry, g_rr, g_rh, g_rd, g_ph, g_po]), (rx, aI G 16 fx), (ry, aI G 16 fy)]) rfl (by decide) ?_
        exact z_lret X rfl du_X10_order_72 (Nat.le_of_ble_eq_true rfl) (Nat.le_of_ble_eq_true rfl) ⟨lq2_2, lq2_2, g2_3, b2_4, tl_, fn_, (by rw [mOrd_yes (by omega)]; exact f19_5), rfl, rfl⟩
      ·
        refine z_run X bu_X10_order_42_43 ku_X10_order_42_43 (lv' := [(1, .int j_), (0, .ref x)]) (st' := [.ref x]) rfl ?_
        refine z_get X fl_10_12 du_X10_order_43 0 rfl (v := .ref told) rfl ?_
        refine z_run X bu_X10_order_46_47 ku_X10_order_46_47 (lv' := [(1, .int j_), (0, .ref x)]) (st' := [.ref x, .ref told]) rfl ?_
        refine z_get X fl_10_40 du_X10_order_47 0 rfl (v := .ref wheel) rfl ?_
        refine z_getN X fl_10_468 du_X10_order_50 1 rfl (v := .ref kb) rfl ?_
        refine z_run X bu_X10_order_53_54 ku_X10_order_53_54 (lv' := [(1, .int j_), (0, .ref x)]) (st' := [.int j_, .ref kb, .ref told]) rfl ?_
        refine z_iald X du_X10_order_54 4 rfl (vin rfl (by omega) (by omega)) (v := (b2_4 j_.toNatClampNeg)) rfl ?_
        refine z_run X bu_X10_order_55_56 ku_X10_order_55_56 (lv' := [(1, .int j_), (0, .ref x)]) (st' := [.long (b2_4 j_.toNatClampNeg).toInt64, .ref told]) rfl ?_
        refine z_callV X k_10_183 (ch_X8_add l G told tn tl_ fn_ (b2_4 j_.toNatClampNeg).toInt64 tl_.toInt rfl (by omega)) du_X10_order_56 8 rfl rfl rfl ⟨Nat.le_of_ble_eq_true rfl, Nat.le_of_ble_eq_true rfl⟩ ⟨Nat.le_of_ble_eq_true rfl, Nat.le_of_ble_eq_true rfl⟩ rfl (rest := []) (As := [.long (b2_4 j_.toNatClampNeg).toInt64]) rfl (Nat.le_of_ble_eq_true rfl) [8, 9] [0, 1, 2, 3, 4, 5, 6, 7] rfl (by decide) (wr := [(x, ob 10 [.ref told, x_reader, .ref ring, x_speeds, .ref wheel, x_trials, x_span, x_search, x_kept, x_crosses, x_trueMasses, x_thought, x_up, x_low, x_fits, x_pulls]), (wheel, ob 0 [.int cc, .ref kw, .ref ks, .ref kb, wX4, wX5, .long lq2_2]), (kw, aI G 8 fw), (ks, aI G 8 g2_3), (kb, aI G 8 b2_4), (ring, ob 5 [.int hc, g_rp, .ref rx, .ref ry, g_rr, g_rh, g_rd, g_ph, g_po]), (rx, aI G 16 fx), (ry, aI G 16 fy)]) rfl (by decide) (by decide) ?_
        rintro _ _ ⟨tl2_7, fn2_8, f56_9, rfl, rfl⟩
        refine Z.at (pc' := 59) (st' := []) (ws' := [(x, ob 10 [.ref told, x_reader, .ref ring, x_speeds, .ref wheel, x_trials, x_span, x_search, x_kept, x_crosses, x_trueMasses, x_thought, x_up, x_low, x_fits, x_pulls]), (wheel, ob 0 [.int cc, .ref kw, .ref ks, .ref kb, wX4, wX5, .long lq2_2]), (kw, aI G 8 fw), (ks, aI G 8 g2_3), (kb, aI G 8 b2_4), (ring, ob 5 [.int hc, g_rp, .ref rx, .ref ry, g_rr, g_rh, g_rd, g_ph, g_po]), (rx, aI G 16 fx), (ry, aI G 16 fy), (told, ob 8 [.ref tn, .int tl2_7]), (tn, aJ G 16 fn2_8)]) (kc' := 0) (ks' := 0) rfl rfl rfl rfl rfl ?_
        refine z_run X bu_X10_order_59_62 ku_X10_order_59_62 (lv' := [(1, .int (j_ + 1)), (0, .ref x)]) (st' := []) rfl ?_
        refine z_goto X du_X10_order_62 (tgt := 31) (by decide) ?_
        exact ih31 ((j_ + 1), tl2_7, fn2_8) ⟨(by dsimp only; have e : (j_ + 1).toInt = j_.toInt + 1 := tI_add rfl (show (1 : Int32).toInt = 1 from by decide) (by omega); omega), (by dsimp only; omega)⟩ (by dsimp only; have e : (j_ + 1).toInt = j_.toInt + 1 := tI_add rfl (show (1 : Int32).toInt = 1 from by decide) (by omega); omega)
    · exact ⟨(by dsimp only; have e0 : (0 : Int32).toInt = 0 := (by decide); omega), (by dsimp only; have e0 : (0 : Int32).toInt = 0 := (by decide); omega)⟩
  ·
    refine z_ldc2 X du_X10_order_7 cn_10_346 ?_
    refine Z.sub (lv' := []) [] rfl [2, 0, 1, 3, 4, 5, 6, 7, 8, 9] (ws' := [(x, ob 10 [.ref told, x_reader, .ref ring, x_speeds, .ref wheel, x_trials, x_span, x_search, x_kept, x_crosses, x_trueMasses, x_thought, x_up, x_low, x_fits, x_pulls]), (told, ob 8 [.ref tn, .int tl]), (tn, aJ G 16 fn), (wheel, ob 0 [.int cc, .ref kw, .ref ks, .ref kb, wX4, wX5, .long lq]), (kw, aI G 8 fw), (ks, aI G 8 fs), (kb, aI G 8 fb), (ring, ob 5 [.int hc, g_rp, .ref rx, .ref ry, g_rr, g_rh, g_rd, g_ph, g_po]), (rx, aI G 16 fx), (ry, aI G 16 fy)]) rfl (by decide) ?_
    exact z_lret X rfl du_X10_order_10 (Nat.le_of_ble_eq_true rfl) (Nat.le_of_ble_eq_true rfl) ⟨((-1) : Int64), lq, fs, fb, tl, fn, (mOrd_no (by omega)).symm, rfl, rfl⟩

