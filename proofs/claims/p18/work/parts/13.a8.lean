/-! the instructions, over Z -/
abbrev ZF (p : Program) (l : Launch) (e : Env) (R : Room) (s : State) (m : MethodId) (args : Array Value) (below : List Frame) (meth : Method) (c : Code) (nL : Nat) (G : KG) (A : Nat → Prop) (Q : State → Prop) (kc ks : Nat) : ZZT := fun pc lv st ws => Z p l e R s m args below meth c nL G A Q pc lv st ws kc ks
def fits32 (a b : Int) : Bool := decide (iMin ≤ a) && decide (b ≤ iMax)
def bop : Instr → Value → Value → Value
  | .iadd, .int x, .int y => .int (x + y)
  | .isub, .int x, .int y => .int (x - y)
  | .imul, .int x, .int y => .int (x * y)
  | .iand, .int x, .int y => .int (x &&& y)
  | .ior, .int x, .int y => .int (x ||| y)
  | .ixor, .int x, .int y => .int (x ^^^ y)
  | .ishl, .int x, .int y => .int (x <<< (y &&& 31))
  | .ishr, .int x, .int y => .int (x >>> (y &&& 31))
  | .iushr, .int x, .int y => .int ((x.toUInt32 >>> (y.toUInt32 &&& Int32.toUInt32 31)).toInt32)
  | .idiv, .int x, .int y => .int (x / y)
  | .irem, .int x, .int y => .int (x - x / y * y)
  | .ladd, .long x, .long y => .long (x + y)
  | .lsub, .long x, .long y => .long (x - y)
  | .lmul, .long x, .long y => .long (x * y)
  | .land, .long x, .long y => .long (x &&& y)
  | .lor, .long x, .long y => .long (x ||| y)
  | .lxor, .long x, .long y => .long (x ^^^ y)
  | .ldiv, .long x, .long y => .long (x / y)
  | .lrem, .long x, .long y => .long (x - x / y * y)
  | .lshl, .long x, .int y => .long (x <<< (y.toInt64 &&& 63))
  | .lushr, .long x, .int y => .long ((x.toUInt64 >>> (y.toInt64.toUInt64 &&& Int64.toUInt64 63)).toInt64)
  | _, _, _ => .null
def uop : Instr → Value → Value
  | .ineg, .int x => .int (-x)
  | .lneg, .long x => .long (-x)
  | .i2l, .int x => .long x.toInt64
  | .l2i, .long x => .int x.toInt32
  | .i2b, .int x => .int x.toInt8.toInt32
  | .i2s, .int x => .int x.toInt16.toInt32
  | _, _ => .null
/-- a divisor that is not 0 -/
def anz (ev : AEv) (rl : ARl) (y : Nat) : Bool := decide (0 < xlo ev rl y) || decide (xhi ev rl y < 0)
def orT (lx hx ly hy : Int) : VT := bif decide (0 ≤ lx) && decide (0 ≤ ly) then (0, 0, ((2 ^ (Nat.log2 (max hx.toNat hy.toNat) + 1) : Nat) : Int) - 1) else tI0
def shlT (lx hx ly hy : Int) : VT := bif decide (0 ≤ lx) && (decide (0 ≤ ly) && decide (hy ≤ 30)) then fitI (lx * ((2 ^ ly.toNat : Nat) : Int)) (hx * ((2 ^ hy.toNat : Nat) : Int)) else tI0
def shrT (lx hx ly hy : Int) : VT := bif decide (0 ≤ lx) && (decide (0 ≤ ly) && decide (hy ≤ 31)) then (0, 0, hx / ((2 ^ ly.toNat : Nat) : Int)) else tI0
def divT (lx hx ly hy : Int) : VT := bif decide (0 ≤ lx) && decide (0 < ly) then (0, lx / hy, hx / ly) else tI0
def remT (lx hx ly hy : Int) : VT := bif decide (0 ≤ lx) && decide (0 < ly) then (bif decide (lx = hx) && decide (ly = hy) then (0, lx % ly, lx % ly) else (0, 0, hy - 1)) else tI0
def sublo (ev : AEv) (rl : ARl) (x y : Nat) : Int := match adif ev rl x 3 y with
  | some d => max (xlo ev rl x - xhi ev rl y) (-d)
  | none => xlo ev rl x - xhi ev rl y
def subhi (ev : AEv) (rl : ARl) (x y : Nat) : Int := match adif ev rl y 3 x with
  | some d => min (xhi ev rl x - xlo ev rl y) d
  | none => xhi ev rl x - xlo ev rl y
def fitL (a b : Int) : VT := bif decide (lMin ≤ a) && decide (b ≤ lMax) then (1, a, b) else tL0
def mulLo (lx hx ly hy : Int) : Int := min (min (lx * ly) (lx * hy)) (min (hx * ly) (hx * hy))
def mulHi (lx hx ly hy : Int) : Int := max (max (lx * ly) (lx * hy)) (max (hx * ly) (hx * hy))
def abinT (i : Instr) (ev : AEv) (rl : ARl) (x y nx : Nat) : Option (Nat × Nat × VT × ARl) := match i with
  | .iadd => some (0, 0, fitI (xlo ev rl x + xlo ev rl y) (xhi ev rl x + xhi ev rl y), mnz (fits32 (xlo ev rl x + xlo ev rl y) (xhi ev rl x + xhi ev rl y)) (mnz (decide (xlo ev rl y = xhi ev rl y)) [(nx, x, xhi ev rl y), (x, nx, -xlo ev rl y)] ++ mnz (decide (xlo ev rl x = xhi ev rl x)) [(nx, y, xhi ev rl x), (y, nx, -xlo ev rl x)] ++ [(x, nx, -xlo ev rl y), (y, nx, -xlo ev rl x)]))
  | .isub => some (0, 0, fitI (sublo ev rl x y) (subhi ev rl x y), mnz (fits32 (sublo ev rl x y) (subhi ev rl x y)) (mnz (decide (xlo ev rl y = xhi ev rl y)) [(nx, x, -xlo ev rl y), (x, nx, xhi ev rl y)]))
  | .imul => some (0, 0, (bif decide (0 ≤ xlo ev rl x) && decide (0 ≤ xlo ev rl y) then fitI (xlo ev rl x * xlo ev rl y) (xhi ev rl x * xhi ev rl y) else tI0), [])
  | .iand => some (0, 0, (bif decide (0 ≤ xlo ev rl y) then (0, 0, xhi ev rl y) else bif decide (0 ≤ xlo ev rl x) then (0, 0, xhi ev rl x) else tI0), [])
  | .idiv => bif anz ev rl y then some (0, 0, divT (xlo ev rl x) (xhi ev rl x) (xlo ev rl y) (xhi ev rl y), []) else none
  | .irem => bif anz ev rl y then some (0, 0, remT (xlo ev rl x) (xhi ev rl x) (xlo ev rl y) (xhi ev rl y), []) else none
  | .ldiv => bif anz ev rl y then some (1, 1, tL0, []) else none
  | .lrem => bif anz ev rl y then some (1, 1, tL0, []) else none
  | .ior => some (0, 0, orT (xlo ev rl x) (xhi ev rl x) (xlo ev rl y) (xhi ev rl y), [])
  | .ishl => some (0, 0, shlT (xlo ev rl x) (xhi ev rl x) (xlo ev rl y) (xhi ev rl y), [])
  | .ishr => some (0, 0, shrT (xlo ev rl x) (xhi ev rl x) (xlo ev rl y) (xhi ev rl y), [])
  | .ixor => some (0, 0, tI0, [])
  | .iushr => some (0, 0, tI0, [])
  | .ladd => some (1, 1, fitL (xlo ev rl x + xlo ev rl y) (xhi ev rl x + xhi ev rl y), [])
  | .lsub => some (1, 1, fitL (xlo ev rl x - xhi ev rl y) (xhi ev rl x - xlo ev rl y), [])
  | .lmul => some (1, 1, fitL (mulLo (xlo ev rl x) (xhi ev rl x) (xlo ev rl y) (xhi ev rl y)) (mulHi (xlo ev rl x) (xhi ev rl x) (xlo ev rl y) (xhi ev rl y)), [])
  | .land => some (1, 1, tL0, [])
  | .lor => some (1, 1, tL0, [])
  | .lxor => some (1, 1, tL0, [])
  | .lshl => some (1, 0, tL0, [])
  | .lushr => some (1, 0, tL0, [])
  | _ => none
def negL (lo hi : Int) : VT := bif decide (lMin < lo) then (1, -hi, -lo) else bif decide (hi = lMin) then (1, lMin, lMin) else tL0
def aunT (i : Instr) (ev : AEv) (rl : ARl) (x nx : Nat) : Option (Nat × VT × ARl) := match i with
  | .ineg => some (0, fitI (-xhi ev rl x) (-xlo ev rl x), [])
  | .lneg => some (1, negL (xlo ev rl x) (xhi ev rl x), [])
  | .i2l => some (0, (1, xlo ev rl x, xhi ev rl x), [(nx, x, 0), (x, nx, 0)])
  | .l2i => some (1, tI0, [])
  | .i2b => some (0, tI0, [])
  | .i2s => some (0, tI0, [])
  | _ => none
theorem and_bd {x y : Int32} (hy : 0 ≤ y.toInt) : 0 ≤ (x &&& y).toInt ∧ (x &&& y).toInt ≤ y.toInt := by
  have e1 : (x &&& y).toBitVec = x.toBitVec &&& y.toBitVec := rfl
  have hyn : y.toBitVec.toInt = (y.toBitVec.toNat : Int) := by
    have h0 : 0 ≤ y.toBitVec.toInt := hy
    rw [BitVec.toInt_eq_toNat_cond] at h0 ⊢
    split
    · rfl
    · rename_i h
      rw [if_neg h] at h0
      have := y.toBitVec.isLt
      omega
  have hlt : 2 * y.toBitVec.toNat < 2 ^ 32 := by
    have h0 : y.toBitVec.toInt = (y.toBitVec.toNat : Int) := hyn
    rw [BitVec.toInt_eq_toNat_cond] at h0
    split at h0
    · assumption
    · have := y.toBitVec.isLt
      omega
  have hle : (x.toBitVec &&& y.toBitVec).toNat ≤ y.toBitVec.toNat := by
    rw [BitVec.toNat_and]
    exact Nat.and_le_right
  have h2 : (x &&& y).toInt = ((x.toBitVec &&& y.toBitVec).toNat : Int) := by
    show (x &&& y).toBitVec.toInt = _
    rw [e1, BitVec.toInt_eq_toNat_cond, if_pos (by omega)]
  have h3 : y.toInt = (y.toBitVec.toNat : Int) := hyn
  rw [h2, h3]
  omega
theorem i32_nn {x : Int32} (h : 0 ≤ x.toInt) : x.toInt = (x.toBitVec.toNat : Int) ∧ x.toBitVec.toNat < 2 ^ 31 := by
  have h0 : 0 ≤ x.toBitVec.toInt := h
  have e : x.toBitVec.toInt = (x.toBitVec.toNat : Int) ∧ x.toBitVec.toNat < 2 ^ 31 := by
    rw [BitVec.toInt_eq_toNat_cond] at h0 ⊢
    have := x.toBitVec.isLt
    by_cases c : 2 * x.toBitVec.toNat < 2 ^ 32
    · rw [if_pos c]; exact ⟨rfl, by omega⟩
    · rw [if_neg c] at h0; omega
  exact e
theorem i32_of {x : Int32} {n : Nat} (h : x.toBitVec.toNat = n) (hn : n < 2 ^ 31) : x.toInt = (n : Int) := by
  show x.toBitVec.toInt = _
  rw [BitVec.toInt_eq_toNat_cond, if_pos (by omega), h]
theorem or_bd {x y : Int32} {k : Nat} (hx : 0 ≤ x.toInt) (hy : 0 ≤ y.toInt) (h1 : x.toInt < ((2 ^ k : Nat) : Int)) (h2 : y.toInt < ((2 ^ k : Nat) : Int)) : 0 ≤ (x ||| y).toInt ∧ (x ||| y).toInt < ((2 ^ k : Nat) : Int) := by
  obtain ⟨a1, a2⟩ := i32_nn hx
  obtain ⟨b1, b2⟩ := i32_nn hy
  have e1 : (x ||| y).toBitVec.toNat = x.toBitVec.toNat ||| y.toBitVec.toNat := by
    show (x.toBitVec ||| y.toBitVec).toNat = _
    rw [BitVec.toNat_or]
  have l1 : x.toBitVec.toNat ||| y.toBitVec.toNat < 2 ^ 31 := Nat.or_lt_two_pow a2 b2
  have l2 : x.toBitVec.toNat ||| y.toBitVec.toNat < 2 ^ k := Nat.or_lt_two_pow (by omega) (by omega)
  rw [i32_of e1 l1]
  omega
theorem sl_n : ∀ n, n < 32 → ((nI n &&& 31).toBitVec.smod 32).toNat = n := by decide +kernel
theorem i32_nI {x : Int32} (h : 0 ≤ x.toInt) : x = nI x.toInt.toNat := by
  obtain ⟨a1, a2⟩ := i32_nn h
  exact Int32.toInt_inj.mp (by rw [tI_nI (by omega)]; omega)
theorem shl_eq {x y : Int32} (hx : 0 ≤ x.toInt) (hy : 0 ≤ y.toInt) (h30 : y.toInt ≤ 30) (hb : x.toInt * ((2 ^ y.toInt.toNat : Nat) : Int) < 2147483648) : (x <<< (y &&& 31)).toInt = x.toInt * ((2 ^ y.toInt.toNat : Nat) : Int) := by
  have ey := i32_nI hy
  have ex := i32_nI hx
  have hk : y.toInt.toNat < 32 := by omega
  have e0 : (x.toInt.toNat : Int) = x.toInt := by omega
  have hm : ((x.toInt.toNat * 2 ^ y.toInt.toNat : Nat) : Int) = x.toInt * ((2 ^ y.toInt.toNat : Nat) : Int) := by rw [Int.natCast_mul, e0]
  have e1 : nI x.toInt.toNat <<< (nI y.toInt.toNat &&& 31) = nI (x.toInt.toNat * 2 ^ y.toInt.toNat) := pk_shlN _ _ (sl_n _ hk) (by omega)
  have e2 : x <<< (y &&& 31) = nI (x.toInt.toNat * 2 ^ y.toInt.toNat) := by
    rw [← e1, ← ex, ← ey]
  rw [e2, tI_nI (by omega), hm]
theorem shr_bd {x y : Int32} {ly : Nat} (hx : 0 ≤ x.toInt) (hy : (ly : Int) ≤ y.toInt) (h31 : y.toInt ≤ 31) : 0 ≤ (x >>> (y &&& 31)).toInt ∧ (x >>> (y &&& 31)).toInt ≤ x.toInt / ((2 ^ ly : Nat) : Int) := by
  have ey := i32_nI (x := y) (by omega)
  obtain ⟨a1, a2⟩ := i32_nn hx
  have hk : y.toInt.toNat < 32 := by omega
  have e1 : (x >>> (y &&& 31)).toInt = x.toInt >>> y.toInt.toNat := by
    have e3 : (x >>> (y &&& 31)).toBitVec = x.toBitVec.sshiftRight ((y &&& 31).toBitVec.smod 32).toNat := rfl
    show (x >>> (y &&& 31)).toBitVec.toInt = _
    have e4 : ((y &&& 31).toBitVec.smod 32).toNat = y.toInt.toNat := by
      have := sl_n y.toInt.toNat hk
      rw [← ey] at this
      exact this
    rw [e3, e4, BitVec.toInt_sshiftRight]
    rfl
  rw [e1, Int.shiftRight_eq_div_pow]
  have h2 : ((2 ^ ly : Nat) : Int) ≤ ((2 ^ y.toInt.toNat : Nat) : Int) := Int.ofNat_le.mpr (Nat.pow_le_pow_right (by decide) (by omega))
  have h3 : (0 : Int) < ((2 ^ ly : Nat) : Int) := Int.natCast_pos.mpr (Nat.pow_pos (by decide))
  refine ⟨Int.ediv_nonneg hx (by omega), ?_⟩
  have hq : 0 ≤ x.toInt / ((2 ^ y.toInt.toNat : Nat) : Int) := Int.ediv_nonneg hx (by omega)
  refine (Int.le_ediv_iff_mul_le h3).mpr ?_
  exact Int.le_trans (Int.mul_le_mul_of_nonneg_left h2 hq) (Int.ediv_mul_le _ (by omega))
theorem i32_div {a b : Int32} (ha : 0 ≤ a.toInt) (hb : 0 < b.toInt) : (a / b).toInt = a.toInt / b.toInt := by
  have h1 := Int.ediv_nonneg ha (Int.le_of_lt hb)
  have h2 := Int.ediv_le_self b.toInt ha
  have h3 := i32_hi a
  unfold iMax at h3
  rw [Int32.toInt_div, Int.tdiv_eq_ediv_of_nonneg ha]
  exact b32 (by omega) (by omega)
theorem divT_ok {ad : Nat → Nat} {a b : Int32} {lx hx ly hy : Int} (l1 : lx ≤ a.toInt) (l2 : a.toInt ≤ hx) (l3 : ly ≤ b.toInt) (l4 : b.toInt ≤ hy) : vty ad (divT lx hx ly hy) (.int (a / b)) := by
  unfold divT
  cases e : (decide (0 ≤ lx) && decide (0 < ly)) with
  | false => exact vty_i0 _
  | true =>
    rw [Bool.and_eq_true, decide_eq_true_eq, decide_eq_true_eq] at e
    have hb : 0 < b.toInt := by omega
    have h1 := Int.ediv_nonneg (show 0 ≤ a.toInt by omega) (Int.le_of_lt hb)
    have e1 := i32_div (show 0 ≤ a.toInt by omega) hb
    have k1 : 0 ≤ lx / hy := Int.ediv_nonneg e.1 (by omega)
    have k2 := Int.mul_le_mul_of_nonneg_left l4 k1
    have k3 := Int.ediv_mul_le lx (show hy ≠ 0 by omega)
    refine vty_i (by rw [e1]; exact (Int.le_ediv_iff_mul_le hb).mpr (by omega)) ?_
    rw [e1]
    refine (Int.le_ediv_iff_mul_le e.2).mpr ?_
    have h2 := Int.mul_le_mul_of_nonneg_left l3 h1
    have h3 := Int.ediv_mul_le a.toInt (show b.toInt ≠ 0 by omega)
    omega
theorem fitL_ok {ad : Nat → Nat} {a b : Int} {x : Int64} (h : lMin ≤ a → b ≤ lMax → a ≤ x.toInt ∧ x.toInt ≤ b) : vty ad (fitL a b) (.long x) := by
  unfold fitL
  cases e : (decide (lMin ≤ a) && decide (b ≤ lMax)) with
  | false => exact vty_l0 x
  | true =>
    rw [Bool.and_eq_true, decide_eq_true_eq, decide_eq_true_eq] at e
    exact vty_l (h e.1 e.2).1 (h e.1 e.2).2
theorem ladd_ok {ad : Nat → Nat} {a b : Int64} {lx hx ly hy : Int} (l1 : lx ≤ a.toInt) (l2 : a.toInt ≤ hx) (l3 : ly ≤ b.toInt) (l4 : b.toInt ≤ hy) : vty ad (fitL (lx + ly) (hx + hy)) (.long (a + b)) := by
  refine fitL_ok (fun h1 h2 => ?_)
  unfold lMin at h1
  unfold lMax at h2
  rw [Int64.toInt_add, b64 (by omega) (by omega)]
  omega
theorem lsub_ok {ad : Nat → Nat} {a b : Int64} {lx hx ly hy : Int} (l1 : lx ≤ a.toInt) (l2 : a.toInt ≤ hx) (l3 : ly ≤ b.toInt) (l4 : b.toInt ≤ hy) : vty ad (fitL (lx - hy) (hx - ly)) (.long (a - b)) := by
  refine fitL_ok (fun h1 h2 => ?_)
  unfold lMin at h1
  unfold lMax at h2
  rw [Int64.toInt_sub, b64 (by omega) (by omega)]
  omega
theorem mul_corner {a b lx hx ly hy : Int} (l1 : lx ≤ a) (l2 : a ≤ hx) (l3 : ly ≤ b) (l4 : b ≤ hy) : mulLo lx hx ly hy ≤ a * b ∧ a * b ≤ mulHi lx hx ly hy := by
  unfold mulLo mulHi
  have one : ∀ c : Int, min (c * ly) (c * hy) ≤ c * b ∧ c * b ≤ max (c * ly) (c * hy) := by
    intro c
    rcases Int.le_total 0 c with h | h
    · have h1 := Int.mul_le_mul_of_nonneg_left l3 h
      have h2 := Int.mul_le_mul_of_nonneg_left l4 h
      omega
    · have h1 := Int.mul_le_mul_of_nonpos_left h l3
      have h2 := Int.mul_le_mul_of_nonpos_left h l4
      omega
  have p1 := one lx
  have p2 := one hx
  rcases Int.le_total 0 b with h | h
  · have h1 := Int.mul_le_mul_of_nonneg_right l1 h
    have h2 := Int.mul_le_mul_of_nonneg_right l2 h
    omega
  · have h1 := Int.mul_le_mul_of_nonpos_right l1 h
    have h2 := Int.mul_le_mul_of_nonpos_right l2 h
    omega
theorem lmul_ok {ad : Nat → Nat} {a b : Int64} {lx hx ly hy : Int} (l1 : lx ≤ a.toInt) (l2 : a.toInt ≤ hx) (l3 : ly ≤ b.toInt) (l4 : b.toInt ≤ hy) : vty ad (fitL (mulLo lx hx ly hy) (mulHi lx hx ly hy)) (.long (a * b)) := by
  refine fitL_ok (fun h1 h2 => ?_)
  have hm := mul_corner l1 l2 l3 l4
  unfold lMin at h1
  unfold lMax at h2
  rw [Int64.toInt_mul, b64 (by omega) (by omega)]
  exact hm
theorem remT_ok {ad : Nat → Nat} {a b : Int32} {lx hx ly hy : Int} (l1 : lx ≤ a.toInt) (l2 : a.toInt ≤ hx) (l3 : ly ≤ b.toInt) (l4 : b.toInt ≤ hy) : vty ad (remT lx hx ly hy) (.int (a - a / b * b)) := by
  unfold remT
  cases e : (decide (0 ≤ lx) && decide (0 < ly)) with
  | false => exact vty_i0 _
  | true =>
    rw [Bool.and_eq_true, decide_eq_true_eq, decide_eq_true_eq] at e
    have hb : 0 < b.toInt := by omega
    have ha : 0 ≤ a.toInt := by omega
    have h1 := Int.ediv_nonneg ha (Int.le_of_lt hb)
    have e1 := i32_div ha hb
    have h3 := Int.ediv_mul_le a.toInt (show b.toInt ≠ 0 by omega)
    have h0 : 0 ≤ a.toInt / b.toInt * b.toInt := Int.mul_nonneg h1 (Int.le_of_lt hb)
    have h4 := i32_hi a
    unfold iMax at h4
    have e2 : (a / b * b).toInt = a.toInt / b.toInt * b.toInt := tI_mul e1 rfl (by omega)
    have e3 : (a - a / b * b).toInt = a.toInt - a.toInt / b.toInt * b.toInt := tI_sub rfl e2 (by omega)
    have h5 : a.toInt - a.toInt / b.toInt * b.toInt = a.toInt % b.toInt := by
      have := Int.emod_def a.toInt b.toInt
      rw [this, Int.mul_comm]
    have h6 := Int.emod_nonneg a.toInt (show b.toInt ≠ 0 by omega)
    have h7 := Int.emod_lt_of_pos a.toInt hb
    show vty ad (bif decide (lx = hx) && decide (ly = hy) then (0, lx % ly, lx % ly) else (0, 0, hy - 1)) _
    cases e9 : (decide (lx = hx) && decide (ly = hy)) with
    | false => exact vty_i (by rw [e3, h5]; exact h6) (by rw [e3, h5]; omega)
    | true =>
      rw [Bool.and_eq_true, decide_eq_true_eq, decide_eq_true_eq] at e9
      have ea : a.toInt = lx := by omega
      have eb : b.toInt = ly := by omega
      rw [ea, eb] at h5 e3
      exact vty_i (by rw [e3, h5]; exact Int.le_refl _) (by rw [e3, h5]; exact Int.le_refl _)
section AZ6
variable {G : KG} {ad : Nat → Nat} {T : List TE} {mk : List (Nat × Nat)} {w0 : va_W} {pin : List (Nat × Value)} {ZZ : ZZT}
variable {lv : ALv} {st : List Nat} {ev : AEv} {ca : ACa} {rl : ARl} {nx pc pc' : Nat}
theorem az_binR {RR : Value → Value → Prop} {op : Value → Value → Value} {kx ky : Nat} (hk : kx ≤ 2 ∧ ky ≤ 2) (row : ∀ (vx vy : Value) (lw : List (Nat × Value)) (rest : List Value) (ws : va_W), tagv kx vx → tagv ky vy → RR vx vy → ZZ pc' lw (op vx vy :: rest) ws → ZZ pc lw (vy :: vx :: rest) ws) {x y : Nat} (hx : (aty ev x).1 = kx) (hy : (aty ev y).1 = ky) (hf : afr (lv, y :: x :: st, ev, ca, rl, nx) = true) {t : VT} {nr : ARl}
    (ht : ∀ (ν : Nat → Value) (ws : va_W), AK G ad T mk w0 pin (lv, st, ev, ca, rl, nx) ν ws → tagv kx (ν x) → tagv ky (ν y) → RR (ν x) (ν y) ∧ vty ad t (op (ν x) (ν y)) ∧ ∀ q ∈ nr, vI (nup ν nx (op (ν x) (ν y)) q.1) ≤ vI (nup ν nx (op (ν x) (ν y)) q.2.1) + q.2.2)
    (k : AZ ZZ G ad T mk w0 pin (lv, nx :: st, (nx, t) :: ev, ca, nr ++ rl, nx + 1) pc') : AZ ZZ G ad T mk w0 pin (lv, y :: x :: st, ev, ca, rl, nx) pc := by
  intro ν lw sw ws h
  obtain ⟨h1, h2, h3⟩ := h
  have h3 : AK G ad T mk w0 pin (lv, st, ev, ca, rl, nx) ν ws := h3
  have tx := h3.tag hx hk.1
  have ty := h3.tag hy hk.2
  have h2' : sw = ν y :: ν x :: st.map ν := h2
  rw [h2']
  obtain ⟨q0, q1, q2⟩ := ht ν ws h3 tx ty
  exact row _ _ lw _ ws tx ty q0 (k _ _ _ _ (AG.push (st := st) ⟨h1, rfl, h3⟩ (afr_pop (afr_pop hf)) q1 q2))
theorem AK.nz {ν : Nat → Value} {ws : va_W} (h : AK G ad T mk w0 pin (lv, st, ev, ca, rl, nx) ν ws) {y : Nat} (e : anz ev rl y = true) : vI (ν y) ≠ 0 := by
  unfold anz at e
  rw [Bool.or_eq_true, decide_eq_true_eq, decide_eq_true_eq] at e
  have h1 := h.lo2 y
  have h2 := h.hi2 y
  omega
theorem fitI_ok {ad : Nat → Nat} {a b : Int} {x : Int32} (h : fits32 a b = true → a ≤ x.toInt ∧ x.toInt ≤ b) : vty ad (fitI a b) (.int x) := by
  unfold fitI
  cases e : (decide (iMin ≤ a) && decide (b ≤ iMax)) with
  | false => exact vty_i0 x
  | true => exact vty_i (h e).1 (h e).2
theorem mnz_ok {b : Bool} {r : ARl} {P : Nat × Nat × Int → Prop} (h : b = true → ∀ q ∈ r, P q) : ∀ q ∈ mnz b r, P q := by
  intro q hq
  unfold mnz at hq
  cases b with
  | false => cases hq
  | true => exact h rfl q hq
theorem mnz_app {a b : ARl} {P : Nat × Nat × Int → Prop} (h1 : ∀ q ∈ a, P q) (h2 : ∀ q ∈ b, P q) : ∀ q ∈ a ++ b, P q := fun q hq => (List.mem_append.mp hq).elim (h1 q) (h2 q)
theorem rel22 {μ : Nat → Value} {a b u w : Nat} {c1 c2 : Int} (h1 : vI (μ a) ≤ vI (μ b) + c1) (h2 : vI (μ u) ≤ vI (μ w) + c2) : ∀ q ∈ [(a, b, c1), (u, w, c2)], vI (μ q.1) ≤ vI (μ q.2.1) + q.2.2 := by
  intro q hq
  rcases List.mem_cons.mp hq with e | hq
  · rw [e]; exact h1
  · rw [List.mem_singleton.mp hq]; exact h2
theorem rel2 {μ : Nat → Value} {u w : Nat} {c1 c2 : Int} (h1 : vI (μ u) ≤ vI (μ w) + c1) (h2 : vI (μ w) ≤ vI (μ u) + c2) : ∀ q ∈ [(u, w, c1), (w, u, c2)], vI (μ q.1) ≤ vI (μ q.2.1) + q.2.2 := by
  intro q hq
  rcases List.mem_cons.mp hq with e | hq
  · rw [e]; exact h1
  · rw [List.mem_singleton.mp hq]; exact h2
end AZ6
section AZ7
variable {p : Program} {l : Launch} {e : Env} {R : Room} {s : State} {m : MethodId} {args : Array Value} {below : List Frame} {meth : Method} {c : Code} {nL : Nat} {G : KG} {A : Nat → Prop} {Q : State → Prop} {cc : ByteArray} {own : String} {ret : Option FieldType} {nm : String} {kc ks : Nat}
variable {ad : Nat → Nat} {T : List TE} {mk : List (Nat × Nat)} {w0 : va_W} {pin : List (Nat × Value)}
variable {lv : ALv} {st : List Nat} {ev : AEv} {ca : ACa} {rl : ARl} {nx pc : Nat}
set_option maxHeartbeats 2000000 in
theorem s_bin (X : ZC p s m args meth c cc nL own G A ret nm) {i : Instr} {x y kx ky : Nat} {t : VT} {nr : ARl} (hdg : decode cc pc = .ok (i, 1)) (he : abinT i ev rl x y nx = some (kx, ky, t, nr)) (hx : (aty ev x).1 = kx) (hy : (aty ev y).1 = ky) (hf : afr (lv, y :: x :: st, ev, ca, rl, nx) = true)
    (k : AZ (ZF p l e R s m args below meth c nL G A Q kc ks) G ad T mk w0 pin (lv, nx :: st, (nx, t) :: ev, ca, nr ++ rl, nx + 1) (pc + 1)) : AZ (ZF p l e R s m args below meth c nL G A Q kc ks) G ad T mk w0 pin (lv, y :: x :: st, ev, ca, rl, nx) pc := by
  have hxn : x < nx := (afr_ok hf).2.2.1 x (List.mem_cons_of_mem _ List.mem_cons_self)
  have hyn : y < nx := (afr_ok hf).2.2.1 y List.mem_cons_self
  cases i with
  | ixor =>
    simp only [abinT, Option.some.injEq, Prod.mk.injEq] at he
    obtain ⟨rfl, rfl, rfl, rfl⟩ := he
    exact az_bin (op := bop .ixor) ⟨by decide, by decide⟩ (by rintro _ _ lw rest ws ⟨a, rfl⟩ ⟨b, rfl⟩ kz; exact z_ixor X hdg kz) hx hy hf (by rintro ν ws h ⟨a, ha⟩ ⟨b, hb⟩; rw [ha, hb]; exact ⟨vty_i0 _, fun q hq => by cases hq⟩) k
  | iushr =>
    simp only [abinT, Option.some.injEq, Prod.mk.injEq] at he
    obtain ⟨rfl, rfl, rfl, rfl⟩ := he
    exact az_bin (op := bop .iushr) ⟨by decide, by decide⟩ (by rintro _ _ lw rest ws ⟨a, rfl⟩ ⟨b, rfl⟩ kz; exact z_iushr X hdg rfl kz) hx hy hf (by rintro ν ws h ⟨a, ha⟩ ⟨b, hb⟩; rw [ha, hb]; exact ⟨vty_i0 _, fun q hq => by cases hq⟩) k
  | land =>
    simp only [abinT, Option.some.injEq, Prod.mk.injEq] at he
    obtain ⟨rfl, rfl, rfl, rfl⟩ := he
    exact az_bin (op := bop .land) ⟨by decide, by decide⟩ (by rintro _ _ lw rest ws ⟨a, rfl⟩ ⟨b, rfl⟩ kz; exact z_land X hdg kz) hx hy hf (by rintro ν ws h ⟨a, ha⟩ ⟨b, hb⟩; rw [ha, hb]; exact ⟨vty_l0 _, fun q hq => by cases hq⟩) k
  | lor =>
    simp only [abinT, Option.some.injEq, Prod.mk.injEq] at he
    obtain ⟨rfl, rfl, rfl, rfl⟩ := he
    exact az_bin (op := bop .lor) ⟨by decide, by decide⟩ (by rintro _ _ lw rest ws ⟨a, rfl⟩ ⟨b, rfl⟩ kz; exact z_lor X hdg kz) hx hy hf (by rintro ν ws h ⟨a, ha⟩ ⟨b, hb⟩; rw [ha, hb]; exact ⟨vty_l0 _, fun q hq => by cases hq⟩) k
  | lxor =>
    simp only [abinT, Option.some.injEq, Prod.mk.injEq] at he
    obtain ⟨rfl, rfl, rfl, rfl⟩ := he
    exact az_bin (op := bop .lxor) ⟨by decide, by decide⟩ (by rintro _ _ lw rest ws ⟨a, rfl⟩ ⟨b, rfl⟩ kz; exact z_lxor X hdg kz) hx hy hf (by rintro ν ws h ⟨a, ha⟩ ⟨b, hb⟩; rw [ha, hb]; exact ⟨vty_l0 _, fun q hq => by cases hq⟩) k
  | lshl =>
    simp only [abinT, Option.some.injEq, Prod.mk.injEq] at he
    obtain ⟨rfl, rfl, rfl, rfl⟩ := he
    exact az_bin (op := bop .lshl) ⟨by decide, by decide⟩ (by rintro _ _ lw rest ws ⟨a, rfl⟩ ⟨b, rfl⟩ kz; exact z_lshl X hdg rfl kz) hx hy hf (by rintro ν ws h ⟨a, ha⟩ ⟨b, hb⟩; rw [ha, hb]; exact ⟨vty_l0 _, fun q hq => by cases hq⟩) k
  | lushr =>
    simp only [abinT, Option.some.injEq, Prod.mk.injEq] at he
    obtain ⟨rfl, rfl, rfl, rfl⟩ := he
    exact az_bin (op := bop .lushr) ⟨by decide, by decide⟩ (by rintro _ _ lw rest ws ⟨a, rfl⟩ ⟨b, rfl⟩ kz; exact z_lushr X hdg rfl kz) hx hy hf (by rintro ν ws h ⟨a, ha⟩ ⟨b, hb⟩; rw [ha, hb]; exact ⟨vty_l0 _, fun q hq => by cases hq⟩) k
  | ladd =>
    simp only [abinT, Option.some.injEq, Prod.mk.injEq] at he
    obtain ⟨rfl, rfl, rfl, rfl⟩ := he
    exact az_bin (op := bop .ladd) ⟨by decide, by decide⟩ (by rintro _ _ lw rest ws ⟨a, rfl⟩ ⟨b, rfl⟩ kz; exact z_ladd X hdg kz) hx hy hf (by
      rintro ν ws h ⟨a, ha⟩ ⟨b, hb⟩
      have l1 := h.lo2 x
      have l2 := h.hi2 x
      have l3 := h.lo2 y
      have l4 := h.hi2 y
      rw [ha] at l1 l2
      rw [hb] at l3 l4
      have l1 : xlo ev rl x ≤ a.toInt := l1
      have l2 : a.toInt ≤ xhi ev rl x := l2
      have l3 : xlo ev rl y ≤ b.toInt := l3
      have l4 : b.toInt ≤ xhi ev rl y := l4
      refine ⟨?_, fun q hq => by cases hq⟩
      rw [ha, hb]
      exact ladd_ok l1 l2 l3 l4) k
  | lsub =>
    simp only [abinT, Option.some.injEq, Prod.mk.injEq] at he
    obtain ⟨rfl, rfl, rfl, rfl⟩ := he
    exact az_bin (op := bop .lsub) ⟨by decide, by decide⟩ (by rintro _ _ lw rest ws ⟨a, rfl⟩ ⟨b, rfl⟩ kz; exact z_lsub X hdg kz) hx hy hf (by
      rintro ν ws h ⟨a, ha⟩ ⟨b, hb⟩
      have l1 := h.lo2 x
      have l2 := h.hi2 x
      have l3 := h.lo2 y
      have l4 := h.hi2 y
      rw [ha] at l1 l2
      rw [hb] at l3 l4
      have l1 : xlo ev rl x ≤ a.toInt := l1
      have l2 : a.toInt ≤ xhi ev rl x := l2
      have l3 : xlo ev rl y ≤ b.toInt := l3
      have l4 : b.toInt ≤ xhi ev rl y := l4
      refine ⟨?_, fun q hq => by cases hq⟩
      rw [ha, hb]
      exact lsub_ok l1 l2 l3 l4) k
  | lmul =>
    simp only [abinT, Option.some.injEq, Prod.mk.injEq] at he
    obtain ⟨rfl, rfl, rfl, rfl⟩ := he
    exact az_bin (op := bop .lmul) ⟨by decide, by decide⟩ (by rintro _ _ lw rest ws ⟨a, rfl⟩ ⟨b, rfl⟩ kz; exact z_lmul X hdg kz) hx hy hf (by
      rintro ν ws h ⟨a, ha⟩ ⟨b, hb⟩
      have l1 := h.lo2 x
      have l2 := h.hi2 x
      have l3 := h.lo2 y
      have l4 := h.hi2 y
      rw [ha] at l1 l2
      rw [hb] at l3 l4
      have l1 : xlo ev rl x ≤ a.toInt := l1
      have l2 : a.toInt ≤ xhi ev rl x := l2
      have l3 : xlo ev rl y ≤ b.toInt := l3
      have l4 : b.toInt ≤ xhi ev rl y := l4
      refine ⟨?_, fun q hq => by cases hq⟩
      rw [ha, hb]
      exact lmul_ok l1 l2 l3 l4) k
  | iadd =>
    simp only [abinT, Option.some.injEq, Prod.mk.injEq] at he
    obtain ⟨rfl, rfl, rfl, rfl⟩ := he
    exact az_bin (op := bop .iadd) ⟨by decide, by decide⟩ (by rintro _ _ lw rest ws ⟨a, rfl⟩ ⟨b, rfl⟩ kz; exact z_iadd X hdg kz) hx hy hf (by
      rintro ν ws h ⟨a, ha⟩ ⟨b, hb⟩
      have l1 := h.lo2 x
      have l2 := h.hi2 x
      have l3 := h.lo2 y
      have l4 := h.hi2 y
      rw [ha] at l1 l2
      rw [hb] at l3 l4
      have l1 : xlo ev rl x ≤ a.toInt := l1
      have l2 : a.toInt ≤ xhi ev rl x := l2
      have l3 : xlo ev rl y ≤ b.toInt := l3
      have l4 : b.toInt ≤ xhi ev rl y := l4
      have key : fits32 (xlo ev rl x + xlo ev rl y) (xhi ev rl x + xhi ev rl y) = true → (a + b).toInt = a.toInt + b.toInt := by
        intro q
        unfold fits32 at q
        rw [Bool.and_eq_true, decide_eq_true_eq, decide_eq_true_eq] at q
        unfold iMin iMax at q
        exact tI_add rfl rfl (by omega)
      refine ⟨?_, ?_⟩
      · rw [ha, hb]
        exact fitI_ok (fun q => by rw [key q]; omega)
      · refine mnz_ok (fun q => ?_)
        have kk := key q
        have en : nup ν nx (bop .iadd (ν x) (ν y)) nx = .int (a + b) := by rw [nup_eq, ha, hb]; rfl
        have ex : nup ν nx (bop .iadd (ν x) (ν y)) x = .int a := by rw [nup_ne hxn, ha]
        have ey : nup ν nx (bop .iadd (ν x) (ν y)) y = .int b := by rw [nup_ne hyn, hb]
        have vn : vI (nup ν nx (bop .iadd (ν x) (ν y)) nx) = a.toInt + b.toInt := by rw [en]; exact kk
        have vx : vI (nup ν nx (bop .iadd (ν x) (ν y)) x) = a.toInt := by rw [ex]; rfl
        have vy : vI (nup ν nx (bop .iadd (ν x) (ν y)) y) = b.toInt := by rw [ey]; rfl
        exact mnz_app (mnz_app (mnz_ok (fun q2 => by
          have q2 := of_decide_eq_true q2
          exact rel2 (by rw [vn, vx]; omega) (by rw [vn, vx]; omega))) (mnz_ok (fun q2 => by
          have q2 := of_decide_eq_true q2
          exact rel2 (by rw [vn, vy]; omega) (by rw [vn, vy]; omega)))) (rel22 (by rw [vn, vx]; omega) (by rw [vn, vy]; omega))) k
  | isub =>
    simp only [abinT, Option.some.injEq, Prod.mk.injEq] at he
    obtain ⟨rfl, rfl, rfl, rfl⟩ := he
    exact az_bin (op := bop .isub) ⟨by decide, by decide⟩ (by rintro _ _ lw rest ws ⟨a, rfl⟩ ⟨b, rfl⟩ kz; exact z_isub X hdg kz) hx hy hf (by
      rintro ν ws h ⟨a, ha⟩ ⟨b, hb⟩
      have l1 := h.lo2 x
      have l2 := h.hi2 x
      have l3 := h.lo2 y
      have l4 := h.hi2 y
      rw [ha] at l1 l2
      rw [hb] at l3 l4
      have l1 : xlo ev rl x ≤ a.toInt := l1
      have l2 : a.toInt ≤ xhi ev rl x := l2
      have l3 : xlo ev rl y ≤ b.toInt := l3
      have l4 : b.toInt ≤ xhi ev rl y := l4
      have l5 : sublo ev rl x y ≤ a.toInt - b.toInt := by
        unfold sublo
        cases e9 : adif ev rl x 3 y with
        | none => show xlo ev rl x - xhi ev rl y ≤ _; omega
        | some d =>
          have h9 := h.dif e9
          rw [ha, hb] at h9
          have h9 : b.toInt - a.toInt ≤ d := h9
          show max (xlo ev rl x - xhi ev rl y) (-d) ≤ _
          omega
      have l6 : a.toInt - b.toInt ≤ subhi ev rl x y := by
        unfold subhi
        cases e9 : adif ev rl y 3 x with
        | none => show _ ≤ xhi ev rl x - xlo ev rl y; omega
        | some d =>
          have h9 := h.dif e9
          rw [ha, hb] at h9
          have h9 : a.toInt - b.toInt ≤ d := h9
          show _ ≤ min (xhi ev rl x - xlo ev rl y) d
          omega
      have key : fits32 (sublo ev rl x y) (subhi ev rl x y) = true → (a - b).toInt = a.toInt - b.toInt := by
        intro q
        unfold fits32 at q
        rw [Bool.and_eq_true, decide_eq_true_eq, decide_eq_true_eq] at q
        unfold iMin iMax at q
        exact tI_sub rfl rfl (by omega)
      refine ⟨?_, ?_⟩
      · rw [ha, hb]
        exact fitI_ok (fun q => by rw [key q]; omega)
      · refine mnz_ok (fun q => ?_)
        have kk := key q
        have en : nup ν nx (bop .isub (ν x) (ν y)) nx = .int (a - b) := by rw [nup_eq, ha, hb]; rfl
        have ex : nup ν nx (bop .isub (ν x) (ν y)) x = .int a := by rw [nup_ne hxn, ha]
        have ey : nup ν nx (bop .isub (ν x) (ν y)) y = .int b := by rw [nup_ne hyn, hb]
        have vn : vI (nup ν nx (bop .isub (ν x) (ν y)) nx) = a.toInt - b.toInt := by rw [en]; exact kk
        have vx : vI (nup ν nx (bop .isub (ν x) (ν y)) x) = a.toInt := by rw [ex]; rfl
        have vy : vI (nup ν nx (bop .isub (ν x) (ν y)) y) = b.toInt := by rw [ey]; rfl
        exact mnz_ok (fun q2 => by
          have q2 := of_decide_eq_true q2
          exact rel2 (by rw [vn, vx]; omega) (by rw [vn, vx]; omega))) k
  | imul =>
    simp only [abinT, Option.some.injEq, Prod.mk.injEq] at he
    obtain ⟨rfl, rfl, rfl, rfl⟩ := he
    exact az_bin (op := bop .imul) ⟨by decide, by decide⟩ (by rintro _ _ lw rest ws ⟨a, rfl⟩ ⟨b, rfl⟩ kz; exact z_imul X hdg kz) hx hy hf (by
      rintro ν ws h ⟨a, ha⟩ ⟨b, hb⟩
      have l1 := h.lo2 x
      have l2 := h.hi2 x
      have l3 := h.lo2 y
      have l4 := h.hi2 y
      rw [ha] at l1 l2
      rw [hb] at l3 l4
      have l1 : xlo ev rl x ≤ a.toInt := l1
      have l2 : a.toInt ≤ xhi ev rl x := l2
      have l3 : xlo ev rl y ≤ b.toInt := l3
      have l4 : b.toInt ≤ xhi ev rl y := l4
      refine ⟨?_, fun q hq => by cases hq⟩
      rw [ha, hb]
      show vty ad (bif decide (0 ≤ xlo ev rl x) && decide (0 ≤ xlo ev rl y) then fitI (xlo ev rl x * xlo ev rl y) (xhi ev rl x * xhi ev rl y) else tI0) (.int (a * b))
      cases e : (decide (0 ≤ xlo ev rl x) && decide (0 ≤ xlo ev rl y)) with
      | false => exact vty_i0 _
      | true =>
        rw [Bool.and_eq_true, decide_eq_true_eq, decide_eq_true_eq] at e
        have g1 : xlo ev rl x * xlo ev rl y ≤ a.toInt * b.toInt := Int.mul_le_mul l1 l3 e.2 (by omega)
        have g2 : a.toInt * b.toInt ≤ xhi ev rl x * xhi ev rl y := Int.mul_le_mul l2 l4 (by omega) (by omega)
        refine fitI_ok (fun q => ?_)
        unfold fits32 at q
        rw [Bool.and_eq_true, decide_eq_true_eq, decide_eq_true_eq] at q
        unfold iMin iMax at q
        rw [tI_mul rfl rfl (by omega)]
        exact ⟨g1, g2⟩) k
  | iand =>
    simp only [abinT, Option.some.injEq, Prod.mk.injEq] at he
    obtain ⟨rfl, rfl, rfl, rfl⟩ := he
    exact az_bin (op := bop .iand) ⟨by decide, by decide⟩ (by rintro _ _ lw rest ws ⟨a, rfl⟩ ⟨b, rfl⟩ kz; exact z_iand X hdg kz) hx hy hf (by
      rintro ν ws h ⟨a, ha⟩ ⟨b, hb⟩
      have l1 := h.lo2 x
      have l2 := h.hi2 x
      have l3 := h.lo2 y
      have l4 := h.hi2 y
      rw [ha] at l1 l2
      rw [hb] at l3 l4
      have l1 : xlo ev rl x ≤ a.toInt := l1
      have l2 : a.toInt ≤ xhi ev rl x := l2
      have l3 : xlo ev rl y ≤ b.toInt := l3
      have l4 : b.toInt ≤ xhi ev rl y := l4
      refine ⟨?_, fun q hq => by cases hq⟩
      rw [ha, hb]
      show vty ad (bif decide (0 ≤ xlo ev rl y) then (0, 0, xhi ev rl y) else bif decide (0 ≤ xlo ev rl x) then (0, 0, xhi ev rl x) else tI0) (.int (a &&& b))
      cases e : decide (0 ≤ xlo ev rl y) with
      | true =>
        have e := of_decide_eq_true e
        have g := and_bd (x := a) (y := b) (by omega)
        exact vty_i g.1 (by omega)
      | false =>
        cases e2 : decide (0 ≤ xlo ev rl x) with
        | true =>
          have e2 := of_decide_eq_true e2
          have g := and_bd (x := b) (y := a) (by omega)
          rw [Int32.and_comm] at g
          exact vty_i g.1 (by omega)
        | false => exact vty_i0 _) k
  | ior =>
    simp only [abinT, Option.some.injEq, Prod.mk.injEq] at he
    obtain ⟨rfl, rfl, rfl, rfl⟩ := he
    exact az_bin (op := bop .ior) ⟨by decide, by decide⟩ (by rintro _ _ lw rest ws ⟨a, rfl⟩ ⟨b, rfl⟩ kz; exact z_ior X hdg kz) hx hy hf (by
      rintro ν ws h ⟨a, ha⟩ ⟨b, hb⟩
      have l1 := h.lo2 x
      have l2 := h.hi2 x
      have l3 := h.lo2 y
      have l4 := h.hi2 y
      rw [ha] at l1 l2
      rw [hb] at l3 l4
      have l1 : xlo ev rl x ≤ a.toInt := l1
      have l2 : a.toInt ≤ xhi ev rl x := l2
      have l3 : xlo ev rl y ≤ b.toInt := l3
      have l4 : b.toInt ≤ xhi ev rl y := l4
      refine ⟨?_, fun q hq => by cases hq⟩
      rw [ha, hb]
      show vty ad (orT (xlo ev rl x) (xhi ev rl x) (xlo ev rl y) (xhi ev rl y)) (.int (a ||| b))
      unfold orT
      cases e : (decide (0 ≤ xlo ev rl x) && decide (0 ≤ xlo ev rl y)) with
      | false => exact vty_i0 _
      | true =>
        rw [Bool.and_eq_true, decide_eq_true_eq, decide_eq_true_eq] at e
        have hm : max (xhi ev rl x).toNat (xhi ev rl y).toNat < 2 ^ (Nat.log2 (max (xhi ev rl x).toNat (xhi ev rl y).toNat) + 1) := Nat.lt_log2_self
        have g := or_bd (x := a) (y := b) (k := Nat.log2 (max (xhi ev rl x).toNat (xhi ev rl y).toNat) + 1) (by omega) (by omega) (by omega) (by omega)
        exact vty_i g.1 (by omega)) k
  | ishl =>
    simp only [abinT, Option.some.injEq, Prod.mk.injEq] at he
    obtain ⟨rfl, rfl, rfl, rfl⟩ := he
    exact az_bin (op := bop .ishl) ⟨by decide, by decide⟩ (by rintro _ _ lw rest ws ⟨a, rfl⟩ ⟨b, rfl⟩ kz; exact z_ishl X hdg kz) hx hy hf (by
      rintro ν ws h ⟨a, ha⟩ ⟨b, hb⟩
      have l1 := h.lo2 x
      have l2 := h.hi2 x
      have l3 := h.lo2 y
      have l4 := h.hi2 y
      rw [ha] at l1 l2
      rw [hb] at l3 l4
      have l1 : xlo ev rl x ≤ a.toInt := l1
      have l2 : a.toInt ≤ xhi ev rl x := l2
      have l3 : xlo ev rl y ≤ b.toInt := l3
      have l4 : b.toInt ≤ xhi ev rl y := l4
      refine ⟨?_, fun q hq => by cases hq⟩
      rw [ha, hb]
      show vty ad (shlT (xlo ev rl x) (xhi ev rl x) (xlo ev rl y) (xhi ev rl y)) (.int (a <<< (b &&& 31)))
      unfold shlT
      cases e : (decide (0 ≤ xlo ev rl x) && (decide (0 ≤ xlo ev rl y) && decide (xhi ev rl y ≤ 30))) with
      | false => exact vty_i0 _
      | true =>
        rw [Bool.and_eq_true, Bool.and_eq_true, decide_eq_true_eq, decide_eq_true_eq, decide_eq_true_eq] at e
        obtain ⟨z1, z2, z3⟩ := e
        have p1 : ((2 ^ (xlo ev rl y).toNat : Nat) : Int) ≤ ((2 ^ b.toInt.toNat : Nat) : Int) := Int.ofNat_le.mpr (Nat.pow_le_pow_right (by decide) (by omega))
        have p2 : ((2 ^ b.toInt.toNat : Nat) : Int) ≤ ((2 ^ (xhi ev rl y).toNat : Nat) : Int) := Int.ofNat_le.mpr (Nat.pow_le_pow_right (by decide) (by omega))
        have p0 : (0 : Int) ≤ ((2 ^ (xlo ev rl y).toNat : Nat) : Int) := Int.natCast_nonneg _
        have g1 : xlo ev rl x * ((2 ^ (xlo ev rl y).toNat : Nat) : Int) ≤ a.toInt * ((2 ^ b.toInt.toNat : Nat) : Int) := Int.mul_le_mul l1 p1 p0 (by omega)
        have g2 : a.toInt * ((2 ^ b.toInt.toNat : Nat) : Int) ≤ xhi ev rl x * ((2 ^ (xhi ev rl y).toNat : Nat) : Int) := Int.mul_le_mul l2 p2 (by omega) (by omega)
        refine fitI_ok (fun q => ?_)
        unfold fits32 at q
        rw [Bool.and_eq_true, decide_eq_true_eq, decide_eq_true_eq] at q
        unfold iMin iMax at q
        rw [shl_eq (by omega) (by omega) (by omega) (by omega)]
        exact ⟨g1, g2⟩) k
  | ishr =>
    simp only [abinT, Option.some.injEq, Prod.mk.injEq] at he
    obtain ⟨rfl, rfl, rfl, rfl⟩ := he
    exact az_bin (op := bop .ishr) ⟨by decide, by decide⟩ (by rintro _ _ lw rest ws ⟨a, rfl⟩ ⟨b, rfl⟩ kz; exact z_ishr X hdg kz) hx hy hf (by
      rintro ν ws h ⟨a, ha⟩ ⟨b, hb⟩
      have l1 := h.lo2 x
      have l2 := h.hi2 x
      have l3 := h.lo2 y
      have l4 := h.hi2 y
      rw [ha] at l1 l2
      rw [hb] at l3 l4
      have l1 : xlo ev rl x ≤ a.toInt := l1
      have l2 : a.toInt ≤ xhi ev rl x := l2
      have l3 : xlo ev rl y ≤ b.toInt := l3
      have l4 : b.toInt ≤ xhi ev rl y := l4
      refine ⟨?_, fun q hq => by cases hq⟩
      rw [ha, hb]
      show vty ad (shrT (xlo ev rl x) (xhi ev rl x) (xlo ev rl y) (xhi ev rl y)) (.int (a >>> (b &&& 31)))
      unfold shrT
      cases e : (decide (0 ≤ xlo ev rl x) && (decide (0 ≤ xlo ev rl y) && decide (xhi ev rl y ≤ 31))) with
      | false => exact vty_i0 _
      | true =>
        rw [Bool.and_eq_true, Bool.and_eq_true, decide_eq_true_eq, decide_eq_true_eq, decide_eq_true_eq] at e
        obtain ⟨z1, z2, z3⟩ := e
        have g := shr_bd (x := a) (y := b) (ly := (xlo ev rl y).toNat) (by omega) (by omega) (by omega)
        have p3 : (0 : Int) < ((2 ^ (xlo ev rl y).toNat : Nat) : Int) := Int.natCast_pos.mpr (Nat.pow_pos (by decide))
        exact vty_i g.1 (Int.le_trans g.2 (Int.ediv_le_ediv p3 l2))) k
  | idiv =>
    simp only [abinT] at he
    cases hz : anz ev rl y with
    | false => rw [hz] at he; cases he
    | true =>
      rw [hz] at he
      simp only [cond_true, Option.some.injEq, Prod.mk.injEq] at he
      obtain ⟨rfl, rfl, rfl, rfl⟩ := he
      exact az_binR (RR := fun _ b => vI b ≠ 0) (op := bop .idiv) ⟨by decide, by decide⟩ (by rintro _ _ lw rest ws ⟨a, rfl⟩ ⟨b, rfl⟩ hz2 kz; exact z_idiv X hdg (fun e0 => hz2 (by rw [e0]; rfl)) kz) hx hy hf (by
        rintro ν ws h ⟨a, ha⟩ ⟨b, hb⟩
        refine ⟨h.nz hz, ?_, fun q hq => by cases hq⟩
        have l1 := h.lo2 x
        have l2 := h.hi2 x
        have l3 := h.lo2 y
        have l4 := h.hi2 y
        rw [ha] at l1 l2
        rw [hb] at l3 l4
        have l1 : xlo ev rl x ≤ a.toInt := l1
        have l2 : a.toInt ≤ xhi ev rl x := l2
        have l3 : xlo ev rl y ≤ b.toInt := l3
        have l4 : b.toInt ≤ xhi ev rl y := l4
        rw [ha, hb]
        exact divT_ok l1 l2 l3 l4) k
  | irem =>
    simp only [abinT] at he
    cases hz : anz ev rl y with
    | false => rw [hz] at he; cases he
    | true =>
      rw [hz] at he
      simp only [cond_true, Option.some.injEq, Prod.mk.injEq] at he
      obtain ⟨rfl, rfl, rfl, rfl⟩ := he
      exact az_binR (RR := fun _ b => vI b ≠ 0) (op := bop .irem) ⟨by decide, by decide⟩ (by rintro _ _ lw rest ws ⟨a, rfl⟩ ⟨b, rfl⟩ hz2 kz; exact z_irem X hdg (fun e0 => hz2 (by rw [e0]; rfl)) kz) hx hy hf (by
        rintro ν ws h ⟨a, ha⟩ ⟨b, hb⟩
        refine ⟨h.nz hz, ?_, fun q hq => by cases hq⟩
        have l1 := h.lo2 x
        have l2 := h.hi2 x
        have l3 := h.lo2 y
        have l4 := h.hi2 y
        rw [ha] at l1 l2
        rw [hb] at l3 l4
        have l1 : xlo ev rl x ≤ a.toInt := l1
        have l2 : a.toInt ≤ xhi ev rl x := l2
        have l3 : xlo ev rl y ≤ b.toInt := l3
        have l4 : b.toInt ≤ xhi ev rl y := l4
        rw [ha, hb]
        exact remT_ok l1 l2 l3 l4) k
  | ldiv =>
    simp only [abinT] at he
    cases hz : anz ev rl y with
    | false => rw [hz] at he; cases he
    | true =>
      rw [hz] at he
      simp only [cond_true, Option.some.injEq, Prod.mk.injEq] at he
      obtain ⟨rfl, rfl, rfl, rfl⟩ := he
      exact az_binR (RR := fun _ b => vI b ≠ 0) (op := bop .ldiv) ⟨by decide, by decide⟩ (by rintro _ _ lw rest ws ⟨a, rfl⟩ ⟨b, rfl⟩ hz2 kz; exact z_ldiv X hdg (fun e0 => hz2 (by rw [e0]; rfl)) kz) hx hy hf (by rintro ν ws h ⟨a, ha⟩ ⟨b, hb⟩; refine ⟨h.nz hz, ?_⟩; rw [ha, hb]; exact ⟨vty_l0 _, fun q hq => by cases hq⟩) k
  | lrem =>
    simp only [abinT] at he
    cases hz : anz ev rl y with
    | false => rw [hz] at he; cases he
    | true =>
      rw [hz] at he
      simp only [cond_true, Option.some.injEq, Prod.mk.injEq] at he
      obtain ⟨rfl, rfl, rfl, rfl⟩ := he
      exact az_binR (RR := fun _ b => vI b ≠ 0) (op := bop .lrem) ⟨by decide, by decide⟩ (by rintro _ _ lw rest ws ⟨a, rfl⟩ ⟨b, rfl⟩ hz2 kz; exact z_lrem X hdg (fun e0 => hz2 (by rw [e0]; rfl)) kz) hx hy hf (by rintro ν ws h ⟨a, ha⟩ ⟨b, hb⟩; refine ⟨h.nz hz, ?_⟩; rw [ha, hb]; exact ⟨vty_l0 _, fun q hq => by cases hq⟩) k
  | _ => exact absurd he (by simp [abinT])
theorem s_un (X : ZC p s m args meth c cc nL own G A ret nm) {i : Instr} {x kx : Nat} {t : VT} {nr : ARl} (hdg : decode cc pc = .ok (i, 1)) (he : aunT i ev rl x nx = some (kx, t, nr)) (hx : (aty ev x).1 = kx) (hf : afr (lv, x :: st, ev, ca, rl, nx) = true)
    (k : AZ (ZF p l e R s m args below meth c nL G A Q kc ks) G ad T mk w0 pin (lv, nx :: st, (nx, t) :: ev, ca, nr ++ rl, nx + 1) (pc + 1)) : AZ (ZF p l e R s m args below meth c nL G A Q kc ks) G ad T mk w0 pin (lv, x :: st, ev, ca, rl, nx) pc := by
  have hxn : x < nx := (afr_ok hf).2.2.1 x List.mem_cons_self
  cases i with
  | l2i =>
    simp only [aunT, Option.some.injEq, Prod.mk.injEq] at he
    obtain ⟨rfl, rfl, rfl⟩ := he
    exact az_un (op := uop .l2i) (by decide) (by rintro _ lw rest ws ⟨a, rfl⟩ kz; exact z_l2i X hdg rfl kz) hx hf (by rintro ν ws h ⟨a, ha⟩; rw [ha]; exact ⟨vty_i0 _, fun q hq => by cases hq⟩) k
  | i2b =>
    simp only [aunT, Option.some.injEq, Prod.mk.injEq] at he
    obtain ⟨rfl, rfl, rfl⟩ := he
    exact az_un (op := uop .i2b) (by decide) (by rintro _ lw rest ws ⟨a, rfl⟩ kz; exact z_i2b X hdg rfl kz) hx hf (by rintro ν ws h ⟨a, ha⟩; rw [ha]; exact ⟨vty_i0 _, fun q hq => by cases hq⟩) k
  | i2s =>
    simp only [aunT, Option.some.injEq, Prod.mk.injEq] at he
    obtain ⟨rfl, rfl, rfl⟩ := he
    exact az_un (op := uop .i2s) (by decide) (by rintro _ lw rest ws ⟨a, rfl⟩ kz; exact z_i2s X hdg rfl kz) hx hf (by rintro ν ws h ⟨a, ha⟩; rw [ha]; exact ⟨vty_i0 _, fun q hq => by cases hq⟩) k
  | ineg =>
    simp only [aunT, Option.some.injEq, Prod.mk.injEq] at he
    obtain ⟨rfl, rfl, rfl⟩ := he
    exact az_un (op := uop .ineg) (by decide) (by rintro _ lw rest ws ⟨a, rfl⟩ kz; exact z_ineg X hdg kz) hx hf (by
      rintro ν ws h ⟨a, ha⟩
      have l1 := h.lo2 x
      have l2 := h.hi2 x
      rw [ha] at l1 l2
      have l1 : xlo ev rl x ≤ a.toInt := l1
      have l2 : a.toInt ≤ xhi ev rl x := l2
      rw [ha]
      refine ⟨fitI_ok (fun q => ?_), fun q hq => by cases hq⟩
      unfold fits32 at q
      rw [Bool.and_eq_true, decide_eq_true_eq, decide_eq_true_eq] at q
      unfold iMin iMax at q
      rw [tI_neg rfl (by omega)]
      omega) k
  | lneg =>
    simp only [aunT, Option.some.injEq, Prod.mk.injEq] at he
    obtain ⟨rfl, rfl, rfl⟩ := he
    exact az_un (op := uop .lneg) (by decide) (by rintro _ lw rest ws ⟨a, rfl⟩ kz; exact z_lneg X hdg kz) hx hf (by
      rintro ν ws h ⟨a, ha⟩
      have l1 := h.lo2 x
      have l2 := h.hi2 x
      rw [ha] at l1 l2
      have l1 : xlo ev rl x ≤ a.toInt := l1
      have l2 : a.toInt ≤ xhi ev rl x := l2
      rw [ha]
      refine ⟨?_, fun q hq => by cases hq⟩
      show vty ad (negL (xlo ev rl x) (xhi ev rl x)) (.long (-a))
      unfold negL
      cases e : decide (lMin < xlo ev rl x) with
      | false =>
        cases e3 : decide (xhi ev rl x = lMin) with
        | false => exact vty_l0 _
        | true =>
          have e3 := of_decide_eq_true e3
          have h9 := i64_lo a
          have e4 : a.toInt = lMin := by omega
          have e5 : a = Int64.minValue := Int64.toInt_inj.mp (by rw [e4]; rfl)
          rw [e5]
          exact vty_l (by decide) (by decide)
      | true =>
        have e := of_decide_eq_true e
        unfold lMin at e
        have h9 := i64_hi a
        unfold lMax at h9
        have e2 : (-a).toInt = -a.toInt := tJ_neg rfl (by omega)
        exact vty_l (by rw [e2]; omega) (by rw [e2]; omega)) k
  | i2l =>
    simp only [aunT, Option.some.injEq, Prod.mk.injEq] at he
    obtain ⟨rfl, rfl, rfl⟩ := he
    exact az_un (op := uop .i2l) (by decide) (by rintro _ lw rest ws ⟨a, rfl⟩ kz; exact z_i2l X hdg rfl kz) hx hf (by
      rintro ν ws h ⟨a, ha⟩
      have l1 := h.lo2 x
      have l2 := h.hi2 x
      rw [ha] at l1 l2
      have e1 : a.toInt64.toInt = a.toInt := Int32.toInt_toInt64 a
      have l1 : xlo ev rl x ≤ a.toInt := l1
      have l2 : a.toInt ≤ xhi ev rl x := l2
      have vn : vI (nup ν nx (uop .i2l (ν x)) nx) = a.toInt := by rw [nup_eq, ha]; exact e1
      have vx : vI (nup ν nx (uop .i2l (ν x)) x) = a.toInt := by rw [nup_ne hxn, ha]; rfl
      refine ⟨?_, fun q hq => ?_⟩
      · rw [ha]
        exact vty_l (by rw [e1]; exact l1) (by rw [e1]; exact l2)
      · rcases List.mem_cons.mp hq with e | hq
        · rw [e]
          show vI (nup ν nx _ nx) ≤ vI (nup ν nx _ x) + 0
          rw [vn, vx]; omega
        · rw [List.mem_singleton.mp hq]
          show vI (nup ν nx _ x) ≤ vI (nup ν nx _ nx) + 0
          rw [vn, vx]; omega) k
  | _ => exact absurd he (by simp [aunT])
end AZ7
