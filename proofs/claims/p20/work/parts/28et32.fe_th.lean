/-! what is felt, as numbers: ints in the class, longs in the reference -/
theorem mul_b {a b A B : Int} (ha : -A ≤ a ∧ a ≤ A) (hb : -B ≤ b ∧ b ≤ B) : -(A * B) ≤ a * b ∧ a * b ≤ A * B := by
  have h1 := Int.mul_nonneg (show 0 ≤ A - a by omega) (show 0 ≤ B + b by omega)
  have h2 := Int.mul_nonneg (show 0 ≤ A + a by omega) (show 0 ≤ B - b by omega)
  have h3 := Int.mul_nonneg (show 0 ≤ A - a by omega) (show 0 ≤ B - b by omega)
  have h4 := Int.mul_nonneg (show 0 ≤ A + a by omega) (show 0 ≤ B + b by omega)
  rw [Int.sub_mul, Int.mul_add, Int.mul_add] at h1
  rw [Int.add_mul, Int.mul_sub, Int.mul_sub] at h2
  rw [Int.sub_mul, Int.mul_sub, Int.mul_sub] at h3
  rw [Int.add_mul, Int.mul_add, Int.mul_add] at h4
  omega
theorem lwp_b {h w : Int} {fp fh fx : Nat → Int32} {ph po : Int32} (h16 : h ≤ 16) (hh : ∀ j : Nat, (j : Int) < h → 0 ≤ (fh j).toInt ∧ (fh j).toInt ≤ 9) (hx : ∀ j : Nat, (j : Int) < h → -99 ≤ (fx j).toInt ∧ (fx j).toInt ≤ 99) (ho : 0 ≤ po.toInt ∧ po.toInt ≤ 20) : -16236 ≤ (lwp h fp fh fx w ph po).toInt ∧ (lwp h fp fh fx w ph po).toInt ≤ 16236 := by
  have b := lw_bound (fp := fp) (w := w) (N := h.toNat) (by omega) (fun j hj => hh j (by omega)) (fun j hj => hx j (by omega)) (Nat.le_refl h.toNat)
  by_cases q : (0 ≤ ph.toInt ∧ ph.toInt < h) ∧ (fp ph.toNatClampNeg).toInt = w
  · have e : lwp h fp fh fx w ph po = lw fp fh fx w h.toNat + po * fx ph.toNatClampNeg := if_pos q
    have bx := hx ph.toNatClampNeg (show ((ph.toInt.toNat : Nat) : Int) < h by omega)
    have m := mul_b (A := 20) (B := 99) (a := po.toInt) (b := (fx ph.toNatClampNeg).toInt) (by omega) bx
    have e1 : (po * fx ph.toNatClampNeg).toInt = po.toInt * (fx ph.toNatClampNeg).toInt := tI_mul rfl rfl (by omega)
    have e2 : (lw fp fh fx w h.toNat + po * fx ph.toNatClampNeg).toInt = (lw fp fh fx w h.toNat).toInt + po.toInt * (fx ph.toNatClampNeg).toInt := tI_add rfl e1 (by omega)
    rw [e, e2]
    omega
  · have e : lwp h fp fh fx w ph po = lw fp fh fx w h.toNat := if_neg q
    rw [e]
    omega
theorem lwp_congr {h w : Int} {fp fh fx gp gh gx : Nat → Int32} {ph po : Int32} (e1 : EH h fp gp) (e2 : EH h fh gh) (e3 : EH h fx gx) : lwp h fp fh fx w ph po = lwp h gp gh gx w ph po := by
  have l : lw fp fh fx w h.toNat = lw gp gh gx w h.toNat := lw_congr (fun j hj => ⟨e1 j (by omega), e2 j (by omega), e3 j (by omega)⟩)
  unfold lwp
  by_cases q : 0 ≤ ph.toInt ∧ ph.toInt < h
  · have i : ((ph.toNatClampNeg : Nat) : Int) < h := (show ((ph.toInt.toNat : Nat) : Int) < h by omega)
    rw [l, e1 _ i, e3 _ i]
  · rw [if_neg (fun z => q z.1), if_neg (fun z => q z.1), l]
theorem ldp_E {h : Int} {fp fh fx fy gp gh gx gy : Nat → Int32} {ph po : Int32} (h16 : h ≤ 16) (e1 : EH h fp gp) (e2 : EH h fh gh) (e3 : EH h fx gx) (e4 : EH h fy gy) (hh : ∀ j : Nat, (j : Int) < h → 0 ≤ (fh j).toInt ∧ (fh j).toInt ≤ 9) (hx : ∀ j : Nat, (j : Int) < h → -99 ≤ (fx j).toInt ∧ (fx j).toInt ≤ 99) (hy : ∀ j : Nat, (j : Int) < h → -99 ≤ (fy j).toInt ∧ (fy j).toInt ≤ 99) (ho : 0 ≤ po.toInt ∧ po.toInt ≤ 20) {k : Nat} (hk : k < 4) : ldp h fp fh fx fy ph po k = ldp h gp gh gx gy ph po k ∧ -16236 ≤ (ldp h fp fh fx fy ph po k).toInt ∧ (ldp h fp fh fx fy ph po k).toInt ≤ 16236 := by
  rcases (by omega : k = 0 ∨ k = 1 ∨ k = 2 ∨ k = 3) with rfl | rfl | rfl | rfl
  · exact ⟨lwp_congr e1 e2 e3, lwp_b h16 hh hx ho⟩
  · exact ⟨lwp_congr e1 e2 e4, lwp_b h16 hh hy ho⟩
  · exact ⟨lwp_congr e1 e2 e3, lwp_b h16 hh hx ho⟩
  · exact ⟨lwp_congr e1 e2 e4, lwp_b h16 hh hy ho⟩
/-- a pull and its lead, alike as int and as long -/
theorem pl_L {m l : Int32} (hm : -9999 ≤ m.toInt ∧ m.toInt ≤ 9999) (hl : -16236 ≤ l.toInt ∧ l.toInt ≤ 16236) : (m + l).toInt = m.toInt + l.toInt ∧ -26235 ≤ m.toInt + l.toInt ∧ m.toInt + l.toInt ≤ 26235 := ⟨tI_add rfl rfl (by omega), by omega, by omega⟩
def fqI (fa oa c0 c1 m0 m1 m2 m3 l0 l1 : Int32) : Int32 := fa * (0 + c0 * (m0 + l0) + c1 * (m1 + l1)) + (oa * m2 + m3)
def fqL (fa oa c0 c1 m0 m1 m2 m3 l0 l1 : Int32) : Int64 := fa.toInt64 * (0 + c0.toInt64 * (m0 + l0).toInt64 + c1.toInt64 * (m1 + l1).toInt64) + oa.toInt64 * m2.toInt64 + m3.toInt64
theorem fq_L {fa oa c0 c1 m0 m1 m2 m3 l0 l1 : Int32} (ha : 0 ≤ fa.toInt ∧ fa.toInt ≤ 9) (ho : 0 ≤ oa.toInt ∧ oa.toInt ≤ 9) (h0 : -9 ≤ c0.toInt ∧ c0.toInt ≤ 9) (h1 : -9 ≤ c1.toInt ∧ c1.toInt ≤ 9) (b0 : -9999 ≤ m0.toInt ∧ m0.toInt ≤ 9999) (b1 : -9999 ≤ m1.toInt ∧ m1.toInt ≤ 9999) (b2 : -9999 ≤ m2.toInt ∧ m2.toInt ≤ 9999) (b3 : -9999 ≤ m3.toInt ∧ m3.toInt ≤ 9999) (k0 : -16236 ≤ l0.toInt ∧ l0.toInt ≤ 16236) (k1 : -16236 ≤ l1.toInt ∧ l1.toInt ≤ 16236) : fqL fa oa c0 c1 m0 m1 m2 m3 l0 l1 = (fqI fa oa c0 c1 m0 m1 m2 m3 l0 l1).toInt64 ∧ -4500000 ≤ (fqI fa oa c0 c1 m0 m1 m2 m3 l0 l1).toInt ∧ (fqI fa oa c0 c1 m0 m1 m2 m3 l0 l1).toInt ≤ 4500000 := by
  obtain ⟨p0, p0a, p0b⟩ := pl_L b0 k0
  obtain ⟨p1, p1a, p1b⟩ := pl_L b1 k1
  have u0 := mul_b (A := 9) (B := 26235) h0 ⟨p0a, p0b⟩
  have u1 := mul_b (A := 9) (B := 26235) h1 ⟨p1a, p1b⟩
  have q0 : (c0 * (m0 + l0)).toInt = c0.toInt * (m0.toInt + l0.toInt) := tI_mul rfl p0 (by omega)
  have q1 : (c1 * (m1 + l1)).toInt = c1.toInt * (m1.toInt + l1.toInt) := tI_mul rfl p1 (by omega)
  have Q0 : (c0.toInt64 * (m0 + l0).toInt64).toInt = c0.toInt * (m0.toInt + l0.toInt) := tJ_mul (Int32.toInt_toInt64 _) ((Int32.toInt_toInt64 _).trans p0) (by omega)
  have Q1 : (c1.toInt64 * (m1 + l1).toInt64).toInt = c1.toInt * (m1.toInt + l1.toInt) := tJ_mul (Int32.toInt_toInt64 _) ((Int32.toInt_toInt64 _).trans p1) (by omega)
  generalize hx0 : c0.toInt * (m0.toInt + l0.toInt) = x0 at u0 q0 Q0
  generalize hx1 : c1.toInt * (m1.toInt + l1.toInt) = x1 at u1 q1 Q1
  have s1 : (0 + c0 * (m0 + l0)).toInt = 0 + x0 := tI_add (show (0 : Int32).toInt = 0 from by decide) q0 (by omega)
  have s2 : (0 + c0 * (m0 + l0) + c1 * (m1 + l1)).toInt = 0 + x0 + x1 := tI_add s1 q1 (by omega)
  have S1 : (0 + c0.toInt64 * (m0 + l0).toInt64).toInt = 0 + x0 := tJ_add (show (0 : Int64).toInt = 0 from by decide) Q0 (by omega)
  have S2 : (0 + c0.toInt64 * (m0 + l0).toInt64 + c1.toInt64 * (m1 + l1).toInt64).toInt = 0 + x0 + x1 := tJ_add S1 Q1 (by omega)
  have u2 := mul_b (A := 9) (B := 472230) (a := fa.toInt) (b := 0 + x0 + x1) (by omega) (by omega)
  have u3 := mul_b (A := 9) (B := 9999) (a := oa.toInt) (b := m2.toInt) (by omega) b2
  have r1 : (fa * (0 + c0 * (m0 + l0) + c1 * (m1 + l1))).toInt = fa.toInt * (0 + x0 + x1) := tI_mul rfl s2 (by omega)
  have r2 : (oa * m2).toInt = oa.toInt * m2.toInt := tI_mul rfl rfl (by omega)
  have R1 : (fa.toInt64 * (0 + c0.toInt64 * (m0 + l0).toInt64 + c1.toInt64 * (m1 + l1).toInt64)).toInt = fa.toInt * (0 + x0 + x1) := tJ_mul (Int32.toInt_toInt64 _) S2 (by omega)
  have R2 : (oa.toInt64 * m2.toInt64).toInt = oa.toInt * m2.toInt := tJ_mul (Int32.toInt_toInt64 _) (Int32.toInt_toInt64 _) (by omega)
  generalize fa.toInt * (0 + x0 + x1) = y0 at u2 r1 R1
  generalize oa.toInt * m2.toInt = y1 at u3 r2 R2
  have r3 : (oa * m2 + m3).toInt = y1 + m3.toInt := tI_add r2 rfl (by omega)
  have r4 : (fqI fa oa c0 c1 m0 m1 m2 m3 l0 l1).toInt = y0 + (y1 + m3.toInt) := tI_add r1 r3 (by omega)
  have R3 : (fa.toInt64 * (0 + c0.toInt64 * (m0 + l0).toInt64 + c1.toInt64 * (m1 + l1).toInt64) + oa.toInt64 * m2.toInt64).toInt = y0 + y1 := tJ_add R1 R2 (by omega)
  have R4 : (fqL fa oa c0 c1 m0 m1 m2 m3 l0 l1).toInt = y0 + y1 + m3.toInt := tJ_add R3 (Int32.toInt_toInt64 _) (by omega)
  refine ⟨Int64.toInt_inj.mp ?_, ?_, ?_⟩
  · rw [R4, Int32.toInt_toInt64, r4]
    exact Int.add_assoc _ _ _
  · rw [r4]
    omega
  · rw [r4]
    omega
/-- felt as the class sums it, as the reference does -/
def fTx (h : Int) (fp fh fx fy : Nat → Int32) (ph po : Int32) (cr fm ff fo : Nat → Int32) (bq aq : Int32) (a : Int) (k : Nat) : Int32 := ff k * (0 + cr (2 * bq + 0).toNatClampNeg * (fm (0 + aq).toNatClampNeg + lwp h fp fh (axs a fx fy) 0 ph po) + cr (2 * bq + 1).toNatClampNeg * (fm (2 + aq).toNatClampNeg + lwp h fp fh (axs a fx fy) 1 ph po)) + (fo k * fm (4 + aq).toNatClampNeg + fm (6 + aq).toNatClampNeg)
def fRx (cr l m ff fo : Nat → Int32) (bq wq : Int32) (k : Nat) : Int64 := (ff k).toInt64 * (0 + (cr (2 * bq + 0).toNatClampNeg).toInt64 * (m (0 : Int32).toNatClampNeg + l (0 + wq).toNatClampNeg).toInt64 + (cr (2 * bq + 1).toNatClampNeg).toInt64 * (m (1 : Int32).toNatClampNeg + l (2 + wq).toNatClampNeg).toInt64) + (fo k).toInt64 * (m (2 : Int32).toNatClampNeg).toInt64 + (m (3 : Int32).toNatClampNeg).toInt64
theorem fTx_0 {h : Int} {fp fh fx fy : Nat → Int32} {ph po : Int32} {cr fm ff fo : Nat → Int32} {bq : Int32} {k : Nat} : fTx h fp fh fx fy ph po cr fm ff fo bq 0 0 k = fqI (ff k) (fo k) (cr (2 * bq + 0).toNatClampNeg) (cr (2 * bq + 1).toNatClampNeg) (fm 0) (fm 2) (fm 4) (fm 6) (lwp h fp fh fx 0 ph po) (lwp h fp fh fx 1 ph po) := by
  unfold fTx fqI axs
  rw [if_pos rfl, show ((0 : Int32) + 0).toNatClampNeg = 0 from by decide, show ((2 : Int32) + 0).toNatClampNeg = 2 from by decide, show ((4 : Int32) + 0).toNatClampNeg = 4 from by decide, show ((6 : Int32) + 0).toNatClampNeg = 6 from by decide]
theorem fTx_1 {h : Int} {fp fh fx fy : Nat → Int32} {ph po : Int32} {cr fm ff fo : Nat → Int32} {bq : Int32} {k : Nat} : fTx h fp fh fx fy ph po cr fm ff fo bq 1 1 k = fqI (ff k) (fo k) (cr (2 * bq + 0).toNatClampNeg) (cr (2 * bq + 1).toNatClampNeg) (fm 1) (fm 3) (fm 5) (fm 7) (lwp h fp fh fy 0 ph po) (lwp h fp fh fy 1 ph po) := by
  unfold fTx fqI axs
  rw [if_neg (by decide), show ((0 : Int32) + 1).toNatClampNeg = 1 from by decide, show ((2 : Int32) + 1).toNatClampNeg = 3 from by decide, show ((4 : Int32) + 1).toNatClampNeg = 5 from by decide, show ((6 : Int32) + 1).toNatClampNeg = 7 from by decide]
theorem fRx_0 {cr l m ff fo : Nat → Int32} {bq : Int32} {k : Nat} : fRx cr l m ff fo bq 0 k = fqL (ff k) (fo k) (cr (2 * bq + 0).toNatClampNeg) (cr (2 * bq + 1).toNatClampNeg) (m 0) (m 1) (m 2) (m 3) (l 0) (l 2) := by
  unfold fRx fqL
  rw [show ((0 : Int32) + 0).toNatClampNeg = 0 from by decide, show ((2 : Int32) + 0).toNatClampNeg = 2 from by decide, show (0 : Int32).toNatClampNeg = 0 from by decide, show (1 : Int32).toNatClampNeg = 1 from by decide, show (2 : Int32).toNatClampNeg = 2 from by decide, show (3 : Int32).toNatClampNeg = 3 from by decide]
theorem fRx_1 {cr l m ff fo : Nat → Int32} {bq : Int32} {k : Nat} : fRx cr l m ff fo bq 1 k = fqL (ff k) (fo k) (cr (2 * bq + 0).toNatClampNeg) (cr (2 * bq + 1).toNatClampNeg) (m 0) (m 1) (m 2) (m 3) (l 1) (l 3) := by
  unfold fRx fqL
  rw [show ((0 : Int32) + 1).toNatClampNeg = 1 from by decide, show ((2 : Int32) + 1).toNatClampNeg = 3 from by decide, show (0 : Int32).toNatClampNeg = 0 from by decide, show (1 : Int32).toNatClampNeg = 1 from by decide, show (2 : Int32).toNatClampNeg = 2 from by decide, show (3 : Int32).toNatClampNeg = 3 from by decide]
theorem fRx_congr {cr l l' m ff fo : Nat → Int32} {bq : Int32} {k : Nat} (e : ∀ j : Nat, j < 4 → l j = l' j) : fRx cr l m ff fo bq 0 k = fRx cr l' m ff fo bq 0 k ∧ fRx cr l m ff fo bq 1 k = fRx cr l' m ff fo bq 1 k := by
  rw [fRx_0, fRx_0, fRx_1, fRx_1, e 0 (by decide), e 1 (by decide), e 2 (by decide), e 3 (by decide)]
  exact ⟨rfl, rfl⟩
theorem ldp_k {h : Int} {fp fh fx fy : Nat → Int32} {ph po : Int32} : ldp h fp fh fx fy ph po 0 = lwp h fp fh fx 0 ph po ∧ ldp h fp fh fx fy ph po 1 = lwp h fp fh fy 0 ph po ∧ ldp h fp fh fx fy ph po 2 = lwp h fp fh fx 1 ph po ∧ ldp h fp fh fx fy ph po 3 = lwp h fp fh fy 1 ph po := ⟨rfl, rfl, rfl, rfl⟩
theorem bq_ix {bq : Int32} (h : 0 ≤ bq.toInt ∧ bq.toInt ≤ 1) : (2 * bq + 0).toNatClampNeg < 4 ∧ (2 * bq + 1).toNatClampNeg < 4 := by
  have z0 : (0 : Int32).toInt = 0 := by decide
  have z1 : (1 : Int32).toInt = 1 := by decide
  rcases (by omega : bq.toInt = 0 ∨ bq.toInt = 1) with c | c
  · obtain rfl : bq = 0 := Int32.toInt_inj.mp (c.trans z0.symm)
    decide
  · obtain rfl : bq = 1 := Int32.toInt_inj.mp (c.trans z1.symm)
    decide
/-- what of the world felt leans on -/
def FB (h s : Int) (fp fh fx fy : Nat → Int32) (po : Int32) (cr t ff fo : Nat → Int32) : Prop := h ≤ 16 ∧ (∀ j : Nat, (j : Int) < h → 0 ≤ (fh j).toInt ∧ (fh j).toInt ≤ 9) ∧ (∀ j : Nat, (j : Int) < h → -99 ≤ (fx j).toInt ∧ (fx j).toInt ≤ 99) ∧ (∀ j : Nat, (j : Int) < h → -99 ≤ (fy j).toInt ∧ (fy j).toInt ≤ 99) ∧ (0 ≤ po.toInt ∧ po.toInt ≤ 20) ∧ (∀ j : Nat, j < 4 → -9 ≤ (cr j).toInt ∧ (cr j).toInt ≤ 9) ∧ b8 t ∧ (∀ j : Nat, (j : Int) < s → 0 ≤ (ff j).toInt ∧ (ff j).toInt ≤ 9) ∧ ∀ j : Nat, (j : Int) < s → 0 ≤ (fo j).toInt ∧ (fo j).toInt ≤ 9
/-- both sides' arrays are alike -/
def FE (h s : Int) (fp fh fx fy cr t ff fo gp gh gx gy gr X Y gf go : Nat → Int32) : Prop := EH h fp gp ∧ EH h fh gh ∧ EH h fx gx ∧ EH h fy gy ∧ (∀ j : Nat, j < 4 → cr j = gr j) ∧ pr4 t X Y ∧ EH s ff gf ∧ EH s fo go
theorem felt_same {h s : Int} {fp fh fx fy cr t ff fo gp gh gx gy gr X Y gf go : Nat → Int32} {ph po bq : Int32} {k : Nat} (B : FB h s fp fh fx fy po cr t ff fo) (E : FE h s fp fh fx fy cr t ff fo gp gh gx gy gr X Y gf go) (hb : 0 ≤ bq.toInt ∧ bq.toInt ≤ 1) (hk : (k : Int) < s) :
    (fRx gr (ldp h gp gh gx gy ph po) X gf go bq 0 k = (fTx h fp fh fx fy ph po cr t ff fo bq 0 0 k).toInt64 ∧ -4500000 ≤ (fTx h fp fh fx fy ph po cr t ff fo bq 0 0 k).toInt ∧ (fTx h fp fh fx fy ph po cr t ff fo bq 0 0 k).toInt ≤ 4500000) ∧ fRx gr (ldp h gp gh gx gy ph po) Y gf go bq 1 k = (fTx h fp fh fx fy ph po cr t ff fo bq 1 1 k).toInt64 ∧ -4500000 ≤ (fTx h fp fh fx fy ph po cr t ff fo bq 1 1 k).toInt ∧ (fTx h fp fh fx fy ph po cr t ff fo bq 1 1 k).toInt ≤ 4500000 := by
  obtain ⟨B1, B2, B3, B4, B5, B6, B7, B8, B9⟩ := B
  obtain ⟨E1, E2, E3, E4, E5, E6, E7, E8⟩ := E
  obtain ⟨i0, i1⟩ := bq_ix hb
  rw [fTx_0, fTx_1, fRx_0, fRx_1, ldp_k.1, ldp_k.2.1, ldp_k.2.2.1, ldp_k.2.2.2, ← lwp_congr E1 E2 E3, ← lwp_congr E1 E2 E3, ← lwp_congr E1 E2 E4, ← lwp_congr E1 E2 E4, ← E5 _ i0, ← E5 _ i1, ← E7 k hk, ← E8 k hk, ← (E6 0 (by decide)).1, ← (E6 1 (by decide)).1, ← (E6 2 (by decide)).1, ← (E6 3 (by decide)).1, ← (E6 0 (by decide)).2, ← (E6 1 (by decide)).2, ← (E6 2 (by decide)).2, ← (E6 3 (by decide)).2]
  exact ⟨fq_L (B8 k hk) (B9 k hk) (B6 _ i0) (B6 _ i1) (B7 _ (by decide)) (B7 _ (by decide)) (B7 _ (by decide)) (B7 _ (by decide)) (lwp_b B1 B2 B3 B5) (lwp_b B1 B2 B3 B5), fq_L (B8 k hk) (B9 k hk) (B6 _ i0) (B6 _ i1) (B7 _ (by decide)) (B7 _ (by decide)) (B7 _ (by decide)) (B7 _ (by decide)) (lwp_b B1 B2 B4 B5) (lwp_b B1 B2 B4 B5)⟩
/-- the first of the greatest (w 0), of the least -/
def hb (w : Int) (S : Nat → Int) : Nat → Int
  | 0 => -1
  | n + 1 => if hb w S n < 0 ∨ (w = 0 ∧ S (hb w S n).toNat < S n) ∨ (¬ w = 0 ∧ S n < S (hb w S n).toNat) then (n : Int) else hb w S n
theorem hb_new {w : Int} {S : Nat → Int} {n : Nat} (q : hb w S n < 0 ∨ (w = 0 ∧ S (hb w S n).toNat < S n) ∨ (¬ w = 0 ∧ S n < S (hb w S n).toNat)) : hb w S (n + 1) = (n : Int) := if_pos q
theorem hb_old {w : Int} {S : Nat → Int} {n : Nat} (q : ¬ (hb w S n < 0 ∨ (w = 0 ∧ S (hb w S n).toNat < S n) ∨ (¬ w = 0 ∧ S n < S (hb w S n).toNat))) : hb w S (n + 1) = hb w S n := if_neg q
theorem hb_lt {w : Int} {S : Nat → Int} : ∀ {n : Nat}, hb w S n < (n : Int) ∧ (0 < n → 0 ≤ hb w S n)
  | 0 => ⟨by show (-1 : Int) < ((0 : Nat) : Int); omega, fun h => absurd h (Nat.lt_irrefl 0)⟩
  | n + 1 => by
    have ih := hb_lt (w := w) (S := S) (n := n)
    by_cases c : hb w S n < 0 ∨ (w = 0 ∧ S (hb w S n).toNat < S n) ∨ (¬ w = 0 ∧ S n < S (hb w S n).toNat)
    · rw [hb_new c]
      exact ⟨by omega, fun _ => by omega⟩
    · rw [hb_old c]
      exact ⟨by omega, fun _ => by omega⟩
theorem hb_congr {w : Int} {S T : Nat → Int} : ∀ {n : Nat}, (∀ j, j < n → S j = T j) → hb w S n = hb w T n
  | 0, _ => rfl
  | n + 1, h => by
    have ih := hb_congr (w := w) (n := n) (fun j hj => h j (Nat.lt_succ_of_lt hj))
    have l := hb_lt (w := w) (S := T) (n := n)
    by_cases c : hb w T n < 0
    · rw [hb_new (S := S) (Or.inl (by rw [ih]; exact c)), hb_new (Or.inl c)]
    · have e1 : S (hb w T n).toNat = T (hb w T n).toNat := h _ (by omega)
      have e2 : S n = T n := h n (Nat.lt_succ_self n)
      by_cases d : hb w T n < 0 ∨ (w = 0 ∧ T (hb w T n).toNat < T n) ∨ (¬ w = 0 ∧ T n < T (hb w T n).toNat)
      · rw [hb_new d, hb_new (S := S) (by rw [ih, e1, e2]; exact d)]
      · rw [hb_old d, hb_old (S := S) (by rw [ih, e1, e2]; exact d)]
        exact ih
/-- where the search stands; d: what none is -/
def HX (d b : Int) (S : Nat → Int) (f l : Int) : Prop := (b < 0 ∧ f = d) ∨ (0 ≤ b ∧ f = b ∧ l = S b.toNat)
theorem HX.new {d w : Int} {S : Nat → Int} {f l f' v : Int} {n : Nat} (h : HX d (hb w S n) S f l) (c : f < 0 ∨ (w = 0 ∧ l < v) ∨ (¬ w = 0 ∧ v < l)) (ev : v = S n) (ef : f' = (n : Int)) : HX d (hb w S (n + 1)) S f' v := by
  have q : hb w S n < 0 ∨ (w = 0 ∧ S (hb w S n).toNat < S n) ∨ (¬ w = 0 ∧ S n < S (hb w S n).toNat) := by
    rcases h with ⟨h1, -⟩ | ⟨h1, h2, h3⟩
    · exact Or.inl h1
    · rw [← h3, ← ev]
      omega
  rw [hb_new q]
  exact Or.inr ⟨by omega, ef, by rw [Int.toNat_natCast]; exact ev⟩
theorem HX.old {d w : Int} {S : Nat → Int} {f l v : Int} {n : Nat} (hd : d < 0) (h : HX d (hb w S n) S f l) (c : 0 ≤ f) (c2 : ¬ ((w = 0 ∧ l < v) ∨ (¬ w = 0 ∧ v < l))) (ev : v = S n) : HX d (hb w S (n + 1)) S f l := by
  have q : ¬ (hb w S n < 0 ∨ (w = 0 ∧ S (hb w S n).toNat < S n) ∨ (¬ w = 0 ∧ S n < S (hb w S n).toNat)) := by
    rcases h with ⟨h1, h2⟩ | ⟨h1, h2, h3⟩
    · omega
    · rw [← h3, ← ev]
      omega
  rw [hb_old q]
  exact h
def mHums (b w s B : Int) : Int := if (0 ≤ b ∧ b ≤ 1) ∧ 0 ≤ w ∧ w ≤ 1 then (if s = 0 then -2 else B) else -1
theorem mHums_no {b w s B : Int} (q : ¬ ((0 ≤ b ∧ b ≤ 1) ∧ 0 ≤ w ∧ w ≤ 1)) : mHums b w s B = -1 := if_neg q
theorem mHums_0 {b w s B : Int} (q : (0 ≤ b ∧ b ≤ 1) ∧ 0 ≤ w ∧ w ≤ 1) (z : s = 0) : mHums b w s B = -2 := (if_pos q).trans (if_pos z)
theorem mHums_1 {b w s B : Int} (q : (0 ≤ b ∧ b ≤ 1) ∧ 0 ≤ w ∧ w ≤ 1) (z : ¬ s = 0) : mHums b w s B = B := (if_pos q).trans (if_neg z)
/-- how the search ends -/
theorem HX.fin {w s : Int} {S : Nat → Int} {d f l : Int} {b : Int} (h : HX d (hb w S s.toNat) S f l) (hs : 0 ≤ s) (q : (0 ≤ b ∧ b ≤ 1) ∧ 0 ≤ w ∧ w ≤ 1) (c : d = -2 ∨ 0 < s) : f = mHums b w s (hb w S s.toNat) := by
  have l := hb_lt (w := w) (S := S) (n := s.toNat)
  by_cases z : s = 0
  · rw [mHums_0 q z]
    rcases h with ⟨-, h2⟩ | ⟨h1, -⟩
    · omega
    · omega
  · rw [mHums_1 q z]
    rcases h with ⟨h1, -⟩ | ⟨-, h2, -⟩
    · omega
    · exact h2
/-- the place of the first of the greatest -/
def gp (f : Nat → Int64) : Nat → Nat
  | 0 => 0
  | n + 1 => if (f (gp f n)).toInt < (f n).toInt then n else gp f n
theorem gp_yes {f : Nat → Int64} {n : Nat} (h : (f (gp f n)).toInt < (f n).toInt) : gp f (n + 1) = n := if_pos h
theorem gp_no {f : Nat → Int64} {n : Nat} (h : ¬ (f (gp f n)).toInt < (f n).toInt) : gp f (n + 1) = gp f n := if_neg h
theorem gp_1 {f : Nat → Int64} : gp f 1 = 0 := if_neg (Int.lt_irrefl _)
theorem gp_le {f : Nat → Int64} : ∀ {n : Nat}, gp f n ≤ n
  | 0 => Nat.le_refl 0
  | n + 1 => by
    have ih := gp_le (f := f) (n := n)
    by_cases c : (f (gp f n)).toInt < (f n).toInt
    · rw [gp_yes c]
      omega
    · rw [gp_no c]
      omega
theorem gp4 {f : Nat → Int64} {b : Nat} (hb : b < 4) (h1 : ∀ j : Nat, j < 4 → (f j).toInt ≤ (f b).toInt) (h2 : ∀ j : Nat, j < b → (f j).toInt < (f b).toInt) : gp f 4 = b := by
  have key : ∀ n : Nat, n ≤ 4 → (b < n → gp f n = b) ∧ (n ≤ b → gp f n = 0 ∨ gp f n < n) := by
    intro n
    induction n with
    | zero => exact fun _ => ⟨fun h => absurd h (Nat.not_lt_zero b), fun _ => Or.inl rfl⟩
    | succ n ih =>
      intro hn
      obtain ⟨i1, i2⟩ := ih (by omega)
      by_cases c : (f (gp f n)).toInt < (f n).toInt
      · rw [gp_yes c]
        refine ⟨fun h => ?_, fun _ => Or.inr (Nat.lt_succ_self n)⟩
        by_cases d : b < n
        · rw [i1 d] at c
          have z := h1 n (by omega)
          omega
        · omega
      · rw [gp_no c]
        refine ⟨fun h => ?_, fun h => ?_⟩
        · by_cases d : b < n
          · exact i1 d
          · have e : n = b := by omega
            subst e
            rcases i2 (Nat.le_refl n) with z | z
            · rw [z] at c
              rw [z]
              by_cases y : n = 0
              · exact y.symm
              · exact absurd (h2 0 (by omega)) c
            · exact absurd (h2 _ z) c
        · rcases i2 (by omega) with z | z
          · exact Or.inl z
          · exact Or.inr (by omega)
  exact (key 4 (Nat.le_refl 4)).1 hb
theorem gp_congr4 {f g : Nat → Int64} (h : ∀ j : Nat, j < 4 → f j = g j) : gp f 4 = gp g 4 := by
  have key : ∀ n : Nat, n ≤ 4 → gp f n = gp g n := by
    intro n
    induction n with
    | zero => exact fun _ => rfl
    | succ n ih =>
      intro hn
      have e := ih (by omega)
      have l := gp_le (f := g) (n := n)
      have e1 : f (gp g n) = g (gp g n) := h _ (by omega)
      have e2 : f n = g n := h n (by omega)
      by_cases c : (g (gp g n)).toInt < (g n).toInt
      · rw [gp_yes c, gp_yes (f := f) (by rw [e, e1, e2]; exact c)]
      · rw [gp_no c, gp_no (f := f) (by rw [e, e1, e2]; exact c)]
        exact e
  exact key 4 (Nat.le_refl 4)
def szL (x y : Int64) : Int64 := x * x + y * y
theorem szL_sz {x y : Int32} : szL x.toInt64 y.toInt64 = sz x y := rfl
def row4 (a b c d : Int64) (j : Nat) : Int64 := if j = 0 then a else if j = 1 then b else if j = 2 then c else d
/-- sizes of parts: the class's, the reference's -/
def pX (h : Int) (fp fh fx fy : Nat → Int32) (ph po : Int32) (cr t ff fo : Nat → Int32) (k : Nat) : Nat → Int64 := row4
  (szL ((ff k * cr (0 : Int32).toNatClampNeg).toInt64 * (t (0 : Int32).toNatClampNeg + lwp h fp fh (axs 0 fx fy) 0 ph po).toInt64) ((ff k * cr (0 : Int32).toNatClampNeg).toInt64 * (t (1 : Int32).toNatClampNeg + lwp h fp fh (axs 1 fx fy) 0 ph po).toInt64))
  (szL ((ff k * cr (1 : Int32).toNatClampNeg).toInt64 * (t (2 : Int32).toNatClampNeg + lwp h fp fh (axs 0 fx fy) 1 ph po).toInt64) ((ff k * cr (1 : Int32).toNatClampNeg).toInt64 * (t (3 : Int32).toNatClampNeg + lwp h fp fh (axs 1 fx fy) 1 ph po).toInt64))
  (szL ((fo k).toInt64 * (t (4 : Int32).toNatClampNeg).toInt64) ((fo k).toInt64 * (t (5 : Int32).toNatClampNeg).toInt64))
  (szL (t (6 : Int32).toNatClampNeg).toInt64 (t (7 : Int32).toNatClampNeg).toInt64)
def pR (l cr X Y ff fo : Nat → Int32) (k : Nat) : Nat → Int64 := row4
  (szL ((ff k).toInt64 * (cr (0 : Int32).toNatClampNeg).toInt64 * (X (0 : Int32).toNatClampNeg + l (0 : Int32).toNatClampNeg).toInt64) ((ff k).toInt64 * (cr (0 : Int32).toNatClampNeg).toInt64 * (Y (0 : Int32).toNatClampNeg + l (1 : Int32).toNatClampNeg).toInt64))
  (szL ((ff k).toInt64 * (cr (1 : Int32).toNatClampNeg).toInt64 * (X (1 : Int32).toNatClampNeg + l (2 : Int32).toNatClampNeg).toInt64) ((ff k).toInt64 * (cr (1 : Int32).toNatClampNeg).toInt64 * (Y (1 : Int32).toNatClampNeg + l (3 : Int32).toNatClampNeg).toInt64))
  (szL ((fo k).toInt64 * (X (2 : Int32).toNatClampNeg + 0).toInt64) ((fo k).toInt64 * (Y (2 : Int32).toNatClampNeg + 0).toInt64))
  (szL (1 * (X (3 : Int32).toNatClampNeg + 0).toInt64) (1 * (Y (3 : Int32).toNatClampNeg + 0).toInt64))
theorem szL_b {x y : Int64} {B : Int} (hx : -B ≤ x.toInt ∧ x.toInt ≤ B) (hy : -B ≤ y.toInt ∧ y.toInt ≤ B) (hB : B ≤ 100000000) : 0 ≤ (szL x y).toInt := by
  have a := sq_le (x := x.toInt) (b := 100000000) (by omega)
  have b := sq_le (x := y.toInt) (b := 100000000) (by omega)
  have e1 : (x * x).toInt = x.toInt * x.toInt := tJ_mul rfl rfl (by omega)
  have e2 : (y * y).toInt = y.toInt * y.toInt := tJ_mul rfl rfl (by omega)
  have e3 : (szL x y).toInt = x.toInt * x.toInt + y.toInt * y.toInt := tJ_add e1 e2 (by omega)
  rw [e3]
  omega
theorem tm_L {a c m l : Int32} (ha : 0 ≤ a.toInt ∧ a.toInt ≤ 9) (hc : -9 ≤ c.toInt ∧ c.toInt ≤ 9) (hm : -9999 ≤ m.toInt ∧ m.toInt ≤ 9999) (hl : -16236 ≤ l.toInt ∧ l.toInt ≤ 16236) : (a * c).toInt64 = a.toInt64 * c.toInt64 ∧ -3000000 ≤ ((a * c).toInt64 * (m + l).toInt64).toInt ∧ ((a * c).toInt64 * (m + l).toInt64).toInt ≤ 3000000 := by
  have u := mul_b (A := 9) (B := 9) (a := a.toInt) (b := c.toInt) (by omega) hc
  have e1 : (a * c).toInt = a.toInt * c.toInt := tI_mul rfl rfl (by omega)
  have e2 : (a.toInt64 * c.toInt64).toInt = a.toInt * c.toInt := tJ_mul (Int32.toInt_toInt64 _) (Int32.toInt_toInt64 _) (by omega)
  obtain ⟨p0, p1, p2⟩ := pl_L hm hl
  have v := mul_b (A := 81) (B := 26235) (a := a.toInt * c.toInt) (b := m.toInt + l.toInt) (by omega) ⟨p1, p2⟩
  have e3 : ((a * c).toInt64 * (m + l).toInt64).toInt = a.toInt * c.toInt * (m.toInt + l.toInt) := tJ_mul ((Int32.toInt_toInt64 _).trans e1) ((Int32.toInt_toInt64 _).trans p0) (by omega)
  refine ⟨Int64.toInt_inj.mp (by rw [Int32.toInt_toInt64, e1, e2]), ?_, ?_⟩
  · rw [e3]
    omega
  · rw [e3]
    omega
theorem to_L {o m : Int32} (ho : 0 ≤ o.toInt ∧ o.toInt ≤ 9) (hm : -9999 ≤ m.toInt ∧ m.toInt ≤ 9999) : -3000000 ≤ (o.toInt64 * m.toInt64).toInt ∧ (o.toInt64 * m.toInt64).toInt ≤ 3000000 := by
  have u := mul_b (A := 9) (B := 9999) (a := o.toInt) (b := m.toInt) (by omega) hm
  have e : (o.toInt64 * m.toInt64).toInt = o.toInt * m.toInt := tJ_mul (Int32.toInt_toInt64 _) (Int32.toInt_toInt64 _) (by omega)
  rw [e]
  omega
theorem row4_k {a b c d : Int64} : row4 a b c d 0 = a ∧ row4 a b c d 1 = b ∧ row4 a b c d 2 = c ∧ row4 a b c d 3 = d := ⟨rfl, rfl, rfl, rfl⟩
theorem i32_a0 {x : Int32} : x + 0 = x := by grind
theorem i64_1m {x : Int64} : 1 * x = x := by grind
theorem part_same {h s : Int} {fp fh fx fy cr t ff fo gp_ gh gx gy gr X Y gf go : Nat → Int32} {ph po : Int32} {k : Nat} (B : FB h s fp fh fx fy po cr t ff fo) (E : FE h s fp fh fx fy cr t ff fo gp_ gh gx gy gr X Y gf go) (hk : (k : Int) < s) :
    ∀ j : Nat, j < 4 → pX h fp fh fx fy ph po cr t ff fo k j = pR (ldp h gp_ gh gx gy ph po) gr X Y gf go k j ∧ 0 ≤ (pR (ldp h gp_ gh gx gy ph po) gr X Y gf go k j).toInt := by
  obtain ⟨B1, B2, B3, B4, B5, B6, B7, B8, B9⟩ := B
  obtain ⟨E1, E2, E3, E4, E5, E6, E7, E8⟩ := E
  have n0 : (0 : Int32).toNatClampNeg = 0 := by decide
  have n1 : (1 : Int32).toNatClampNeg = 1 := by decide
  have n2 : (2 : Int32).toNatClampNeg = 2 := by decide
  have n3 : (3 : Int32).toNatClampNeg = 3 := by decide
  have n4 : (4 : Int32).toNatClampNeg = 4 := by decide
  have n5 : (5 : Int32).toNatClampNeg = 5 := by decide
  have n6 : (6 : Int32).toNatClampNeg = 6 := by decide
  have n7 : (7 : Int32).toNatClampNeg = 7 := by decide
  have lx : ∀ w : Int, lwp h fp fh (axs 0 fx fy) w ph po = lwp h fp fh fx w ph po := fun _ => rfl
  have ly : ∀ w : Int, lwp h fp fh (axs 1 fx fy) w ph po = lwp h fp fh fy w ph po := fun _ => rfl
  have X0 := tm_L (B8 k hk) (B6 0 (by decide)) (B7 0 (by decide)) (lwp_b (fp := fp) (w := 0) (ph := ph) B1 B2 B3 B5)
  have Y0 := tm_L (B8 k hk) (B6 0 (by decide)) (B7 1 (by decide)) (lwp_b (fp := fp) (w := 0) (ph := ph) B1 B2 B4 B5)
  have X1 := tm_L (B8 k hk) (B6 1 (by decide)) (B7 2 (by decide)) (lwp_b (fp := fp) (w := 1) (ph := ph) B1 B2 B3 B5)
  have Y1 := tm_L (B8 k hk) (B6 1 (by decide)) (B7 3 (by decide)) (lwp_b (fp := fp) (w := 1) (ph := ph) B1 B2 B4 B5)
  have X2 := to_L (B9 k hk) (B7 4 (by decide))
  have Y2 := to_L (B9 k hk) (B7 5 (by decide))
  have b6 := B7 6 (by decide)
  have b7 := B7 7 (by decide)
  have X3 : -3000000 ≤ (t 6).toInt64.toInt ∧ (t 6).toInt64.toInt ≤ 3000000 := by
    rw [Int32.toInt_toInt64]
    omega
  have Y3 : -3000000 ≤ (t 7).toInt64.toInt ∧ (t 7).toInt64.toInt ≤ 3000000 := by
    rw [Int32.toInt_toInt64]
    omega
  have e : ∀ j : Nat, j < 4 → pX h fp fh fx fy ph po cr t ff fo k j = pR (ldp h gp_ gh gx gy ph po) gr X Y gf go k j := by
    intro j hj
    unfold pX pR
    rw [n0, n1, n2, n3, n4, n5, n6, n7, lx, lx, ly, ly, ldp_k.1, ldp_k.2.1, ldp_k.2.2.1, ldp_k.2.2.2, ← lwp_congr E1 E2 E3, ← lwp_congr E1 E2 E3, ← lwp_congr E1 E2 E4, ← lwp_congr E1 E2 E4, ← E5 0 (by decide), ← E5 1 (by decide), ← E7 k hk, ← E8 k hk, ← (E6 0 (by decide)).1, ← (E6 1 (by decide)).1, ← (E6 2 (by decide)).1, ← (E6 3 (by decide)).1, ← (E6 0 (by decide)).2, ← (E6 1 (by decide)).2, ← (E6 2 (by decide)).2, ← (E6 3 (by decide)).2, X0.1, X1.1, i32_a0, i32_a0, i32_a0, i32_a0, i64_1m, i64_1m]
  intro j hj
  refine ⟨e j hj, ?_⟩
  rw [← e j hj]
  unfold pX
  rw [n0, n1, n2, n3, n4, n5, n6, n7, lx, lx, ly, ly]
  rcases (by omega : j = 0 ∨ j = 1 ∨ j = 2 ∨ j = 3) with rfl | rfl | rfl | rfl
  · exact szL_b X0.2 Y0.2 (by decide)
  · exact szL_b X1.2 Y1.2 (by decide)
  · exact szL_b X2 Y2 (by decide)
  · exact szL_b X3 Y3 (by decide)
def mPart (k s : Int) (g : Nat) : Int := if 0 ≤ k ∧ k < s then (g : Int) else -1
theorem mPart_no {k s : Int} {g : Nat} (q : ¬ (0 ≤ k ∧ k < s)) : mPart k s g = -1 := if_neg q
theorem mPart_yes {k s : Int} {g : Nat} (q : 0 ≤ k ∧ k < s) : mPart k s g = (g : Int) := if_pos q
