/-! two: the class's search and the reference's end alike -/
def BI (i : Nat) (a : Int32) : Prop := -(100000 + 20000 * (i : Int)) ≤ a.toInt ∧ a.toInt ≤ 100000 + 20000 * (i : Int)
theorem BI.up {i : Nat} {a : Int32} (h : BI i a) : BI (i + 1) a := by
  unfold BI at h ⊢
  omega
theorem BI.zero {a l : Int32} (ha : -9999 ≤ a.toInt ∧ a.toInt ≤ 9999) (hl : -16236 ≤ l.toInt ∧ l.toInt ≤ 16236) : BI 0 (a + l) := by
  have e : (a + l).toInt = a.toInt + l.toInt := tI_add rfl rfl (by omega)
  unfold BI
  rw [e]
  omega
theorem tw_e3 {fa c x : Int32} (ha : 0 ≤ fa.toInt ∧ fa.toInt ≤ 9) (hc : -9 ≤ c.toInt ∧ c.toInt ≤ 9) (hx : -99 ≤ x.toInt ∧ x.toInt ≤ 99) : (fa * c * x).toInt64 = fa.toInt64 * c.toInt64 * x.toInt64 ∧ -10000 ≤ (fa * c * x).toInt ∧ (fa * c * x).toInt ≤ 10000 := by
  have m1 := mul_b (A := 9) (B := 9) (a := fa.toInt) (b := c.toInt) (by omega) hc
  have q1 : (fa * c).toInt = fa.toInt * c.toInt := tI_mul rfl rfl (by omega)
  have Q1 : (fa.toInt64 * c.toInt64).toInt = fa.toInt * c.toInt := tJ_mul (Int32.toInt_toInt64 _) (Int32.toInt_toInt64 _) (by omega)
  generalize fa.toInt * c.toInt = y at m1 q1 Q1
  have m2 := mul_b (A := 81) (B := 99) (a := y) (b := x.toInt) (by omega) hx
  have q2 : (fa * c * x).toInt = y * x.toInt := tI_mul q1 rfl (by omega)
  have Q2 : (fa.toInt64 * c.toInt64 * x.toInt64).toInt = y * x.toInt := tJ_mul Q1 (Int32.toInt_toInt64 _) (by omega)
  refine ⟨Int64.toInt_inj.mp (by rw [Int32.toInt_toInt64, q2, Q2]), ?_⟩
  rw [q2]
  omega
theorem tw_ring0 {F C0 C1 A B V x O M : Int64} : F * (0 + C0 * A + C1 * B) + O + M + V * (F * C0 * x) = F * (0 + C0 * (A + V * x) + C1 * B) + O + M := by grind
theorem tw_ring1 {F C0 C1 A B V x O M : Int64} : F * (0 + C0 * A + C1 * B) + O + M + V * (F * C1 * x) = F * (0 + C0 * A + C1 * (B + V * x)) + O + M := by grind
theorem fq_s0 {fa oa c0 c1 m0 m1 m2 m3 l0 l1 x : Int32} {v : Int} {i : Nat} (hi : i < 16) (h : BI i (m0 + l0)) (hv : -200 ≤ v ∧ v ≤ 200) (hx : -99 ≤ x.toInt ∧ x.toInt ≤ 99) (ha : 0 ≤ fa.toInt ∧ fa.toInt ≤ 9) (hc : -9 ≤ c0.toInt ∧ c0.toInt ≤ 9) : fqL fa oa c0 c1 m0 m1 m2 m3 l0 l1 + Int64.ofInt v * (fa * c0 * x).toInt64 = fqL fa oa c0 c1 m0 m1 m2 m3 (l0 + Int32.ofInt v * x) l1 ∧ BI (i + 1) (m0 + (l0 + Int32.ofInt v * x)) := by
  obtain ⟨s1, s2⟩ := step_L hi h hv hx
  refine ⟨?_, s2⟩
  unfold fqL
  rw [← s1, (tw_e3 ha hc hx).1]
  exact tw_ring0
theorem fq_s1 {fa oa c0 c1 m0 m1 m2 m3 l0 l1 x : Int32} {v : Int} {i : Nat} (hi : i < 16) (h : BI i (m1 + l1)) (hv : -200 ≤ v ∧ v ≤ 200) (hx : -99 ≤ x.toInt ∧ x.toInt ≤ 99) (ha : 0 ≤ fa.toInt ∧ fa.toInt ≤ 9) (hc : -9 ≤ c1.toInt ∧ c1.toInt ≤ 9) : fqL fa oa c0 c1 m0 m1 m2 m3 l0 l1 + Int64.ofInt v * (fa * c1 * x).toInt64 = fqL fa oa c0 c1 m0 m1 m2 m3 l0 (l1 + Int32.ofInt v * x) ∧ BI (i + 1) (m1 + (l1 + Int32.ofInt v * x)) := by
  obtain ⟨s1, s2⟩ := step_L hi h hv hx
  refine ⟨?_, s2⟩
  unfold fqL
  rw [← s1, (tw_e3 ha hc hx).1]
  exact tw_ring1
section FR4
variable {cr l m ff fo : Nat → Int32} {k : Nat}
theorem fRx_00 : fRx cr l m ff fo 0 0 k = fqL (ff k) (fo k) (cr 0) (cr 1) (m 0) (m 1) (m 2) (m 3) (l 0) (l 2) := by
  rw [fRx_0, show ((2 : Int32) * 0 + 0).toNatClampNeg = 0 from by decide, show ((2 : Int32) * 0 + 1).toNatClampNeg = 1 from by decide]
theorem fRx_01 : fRx cr l m ff fo 0 1 k = fqL (ff k) (fo k) (cr 0) (cr 1) (m 0) (m 1) (m 2) (m 3) (l 1) (l 3) := by
  rw [fRx_1, show ((2 : Int32) * 0 + 0).toNatClampNeg = 0 from by decide, show ((2 : Int32) * 0 + 1).toNatClampNeg = 1 from by decide]
theorem fRx_10 : fRx cr l m ff fo 1 0 k = fqL (ff k) (fo k) (cr 2) (cr 3) (m 0) (m 1) (m 2) (m 3) (l 0) (l 2) := by
  rw [fRx_0, show ((2 : Int32) * 1 + 0).toNatClampNeg = 2 from by decide, show ((2 : Int32) * 1 + 1).toNatClampNeg = 3 from by decide]
theorem fRx_11 : fRx cr l m ff fo 1 1 k = fqL (ff k) (fo k) (cr 2) (cr 3) (m 0) (m 1) (m 2) (m 3) (l 1) (l 3) := by
  rw [fRx_1, show ((2 : Int32) * 1 + 0).toNatClampNeg = 2 from by decide, show ((2 : Int32) * 1 + 1).toNatClampNeg = 3 from by decide]
end FR4
/-- one step of each: both bearings feel alike -/
def SR2 (cr X Y ff fo : Nat → Int32) (s i : Nat) (_k : Int) (l : Nat → Int32) (u : CSt) : Prop := ((u.1 0 = fRx cr l X ff fo 0 0 s ∧ u.2 0 = fRx cr l Y ff fo 0 1 s) ∧ u.1 1 = fRx cr l X ff fo 1 0 s ∧ u.2 1 = fRx cr l Y ff fo 1 1 s) ∧ (BI i (X 0 + l 0) ∧ BI i (Y 0 + l 1)) ∧ BI i (X 1 + l 2) ∧ BI i (Y 1 + l 3)
theorem SR2.step {cr X Y ff fo l l' : Nat → Int32} {s i : Nat} {k : Int} {u : CSt} {fsx fsy : Nat → Int64} {p x y : Int32} {v : Int} (hi : i < 16) (hv : -200 ≤ v ∧ v ≤ 200) (hx : -99 ≤ x.toInt ∧ x.toInt ≤ 99) (hy : -99 ≤ y.toInt ∧ y.toInt ≤ 99) (hp : 0 ≤ p.toInt ∧ p.toInt ≤ 1) (hf : 0 ≤ (ff s).toInt ∧ (ff s).toInt ≤ 9) (hc : ∀ j : Nat, j < 4 → -9 ≤ (cr j).toInt ∧ (cr j).toInt ≤ 9) (a0 : fsx i = (ff s * cr p.toNatClampNeg * x).toInt64) (b0 : fsy i = (ff s * cr p.toNatClampNeg * y).toInt64) (a1 : fsx (16 + i) = (ff s * cr (2 + p).toNatClampNeg * x).toInt64) (b1 : fsy (16 + i) = (ff s * cr (2 + p).toNatClampNeg * y).toInt64) (R : SR2 cr X Y ff fo s i k l u) (hl : l' = upd (upd l (2 * p).toNatClampNeg (l (2 * p).toNatClampNeg + Int32.ofInt v * x)) ((2 * p) + 1).toNatClampNeg (upd l (2 * p).toNatClampNeg (l (2 * p).toNatClampNeg + Int32.ofInt v * x) ((2 * p) + 1).toNatClampNeg + Int32.ofInt v * y)) : SR2 cr X Y ff fo s (i + 1) (k - 1) l' (stC 2 fsx fsy i v u) := by
  obtain ⟨⟨⟨r1, r2⟩, r3, r4⟩, ⟨r5, r6⟩, r7, r8⟩ := R
  have t0 : (stC 2 fsx fsy i v u).1 0 = u.1 0 + Int64.ofInt v * fsx i := (trn_in (n := 2) (p := 0) (x := fun p => u.1 p + Int64.ofInt v * fsx (16 * p + i)) (by decide)).trans (by
    show u.1 0 + Int64.ofInt v * fsx (16 * 0 + i) = _
    rw [show 16 * 0 + i = i by omega])
  have w0 : (stC 2 fsx fsy i v u).2 0 = u.2 0 + Int64.ofInt v * fsy i := (trn_in (n := 2) (p := 0) (x := fun p => u.2 p + Int64.ofInt v * fsy (16 * p + i)) (by decide)).trans (by
    show u.2 0 + Int64.ofInt v * fsy (16 * 0 + i) = _
    rw [show 16 * 0 + i = i by omega])
  have t1 : (stC 2 fsx fsy i v u).1 1 = u.1 1 + Int64.ofInt v * fsx (16 + i) := trn_in (n := 2) (p := 1) (x := fun p => u.1 p + Int64.ofInt v * fsx (16 * p + i)) (by decide)
  have w1 : (stC 2 fsx fsy i v u).2 1 = u.2 1 + Int64.ofInt v * fsy (16 + i) := trn_in (n := 2) (p := 1) (x := fun p => u.2 p + Int64.ofInt v * fsy (16 * p + i)) (by decide)
  rw [fRx_00] at r1
  rw [fRx_01] at r2
  rw [fRx_10] at r3
  rw [fRx_11] at r4
  unfold SR2
  rw [t0, w0, t1, w1, fRx_00, fRx_01, fRx_10, fRx_11, r1, r2, r3, r4, a0, b0, a1, b1]
  have z0 : (0 : Int32).toInt = 0 := by decide
  have z1 : (1 : Int32).toInt = 1 := by decide
  rcases (by omega : p.toInt = 0 ∨ p.toInt = 1) with c | c
  · obtain rfl : p = 0 := Int32.toInt_inj.mp (c.trans z0.symm)
    rw [show ((2 : Int32) * 0).toNatClampNeg = 0 from by decide, show ((2 : Int32) * 0 + 1).toNatClampNeg = 1 from by decide] at hl
    rw [show (0 : Int32).toNatClampNeg = 0 from by decide, show ((2 : Int32) + 0).toNatClampNeg = 2 from by decide]
    have l0 : l' 0 = l 0 + Int32.ofInt v * x := by rw [hl, upd_off (by decide), upd_at]
    have l1 : l' 1 = l 1 + Int32.ofInt v * y := by rw [hl, upd_at, upd_off (by decide)]
    have l2 : l' 2 = l 2 := by rw [hl, upd_off (by decide), upd_off (by decide)]
    have l3 : l' 3 = l 3 := by rw [hl, upd_off (by decide), upd_off (by decide)]
    rw [l0, l1, l2, l3]
    obtain ⟨x1, x2⟩ := fq_s0 (oa := fo s) (c1 := cr 1) (m1 := X 1) (m2 := X 2) (m3 := X 3) (l1 := l 2) hi r5 hv hx hf (hc 0 (by decide))
    obtain ⟨y1, y2⟩ := fq_s0 (oa := fo s) (c1 := cr 1) (m1 := Y 1) (m2 := Y 2) (m3 := Y 3) (l1 := l 3) hi r6 hv hy hf (hc 0 (by decide))
    obtain ⟨x3, -⟩ := fq_s0 (oa := fo s) (c1 := cr 3) (m1 := X 1) (m2 := X 2) (m3 := X 3) (l1 := l 2) hi r5 hv hx hf (hc 2 (by decide))
    obtain ⟨y3, -⟩ := fq_s0 (oa := fo s) (c1 := cr 3) (m1 := Y 1) (m2 := Y 2) (m3 := Y 3) (l1 := l 3) hi r6 hv hy hf (hc 2 (by decide))
    exact ⟨⟨⟨x1, y1⟩, x3, y3⟩, ⟨x2, y2⟩, r7.up, r8.up⟩
  · obtain rfl : p = 1 := Int32.toInt_inj.mp (c.trans z1.symm)
    rw [show ((2 : Int32) * 1).toNatClampNeg = 2 from by decide, show ((2 : Int32) * 1 + 1).toNatClampNeg = 3 from by decide] at hl
    rw [show (1 : Int32).toNatClampNeg = 1 from by decide, show ((2 : Int32) + 1).toNatClampNeg = 3 from by decide]
    have l0 : l' 0 = l 0 := by rw [hl, upd_off (by decide), upd_off (by decide)]
    have l1 : l' 1 = l 1 := by rw [hl, upd_off (by decide), upd_off (by decide)]
    have l2 : l' 2 = l 2 + Int32.ofInt v * x := by rw [hl, upd_off (by decide), upd_at]
    have l3 : l' 3 = l 3 + Int32.ofInt v * y := by rw [hl, upd_at, upd_off (by decide)]
    rw [l0, l1, l2, l3]
    obtain ⟨x1, x2⟩ := fq_s1 (oa := fo s) (c0 := cr 0) (m0 := X 0) (m2 := X 2) (m3 := X 3) (l0 := l 0) hi r7 hv hx hf (hc 1 (by decide))
    obtain ⟨y1, y2⟩ := fq_s1 (oa := fo s) (c0 := cr 0) (m0 := Y 0) (m2 := Y 2) (m3 := Y 3) (l0 := l 1) hi r8 hv hy hf (hc 1 (by decide))
    obtain ⟨x3, -⟩ := fq_s1 (oa := fo s) (c0 := cr 2) (m0 := X 0) (m2 := X 2) (m3 := X 3) (l0 := l 0) hi r7 hv hx hf (hc 3 (by decide))
    obtain ⟨y3, -⟩ := fq_s1 (oa := fo s) (c0 := cr 2) (m0 := Y 0) (m2 := Y 2) (m3 := Y 3) (l0 := l 1) hi r8 hv hy hf (hc 3 (by decide))
    exact ⟨⟨⟨x1, y1⟩, x3, y3⟩, ⟨r5.up, r6.up⟩, x2, y2⟩
theorem tw_ix {p : Int32} (h : 0 ≤ p.toInt ∧ p.toInt ≤ 1) : p.toNatClampNeg < 4 ∧ (2 + p).toNatClampNeg < 4 := by
  have e : (2 + p).toInt = 2 + p.toInt := tI_add (show (2 : Int32).toInt = 2 from by decide) rfl (by omega)
  have f : (2 + p).toNatClampNeg = (2 + p.toInt).toNat := congrArg Int.toNat e
  have g : p.toNatClampNeg = p.toInt.toNat := rfl
  rw [f, g]
  omega
theorem two_core {h s : Int} {fp fh fx fy cr t ff fo gp gh gx gy gr X Y gf go lo hi lo' hi' : Nat → Int32} {sq : Int32} {k : Int} {v v' : Int64} (h0 : 0 ≤ h) (B : FB h s fp fh fx fy 0 cr t ff fo) (E : FE h s fp fh fx fy cr t ff fo gp gh gx gy gr X Y gf go) (hp : ∀ j : Nat, (j : Int) < h → 0 ≤ (fp j).toInt ∧ (fp j).toInt ≤ 1) (hlo : ∀ j : Nat, (j : Int) < h → lo j = lo' j ∧ hi j = hi' j) (hb : ∀ j : Nat, (j : Int) < h → (-200 ≤ (lo j).toInt ∧ (lo j).toInt ≤ 0) ∧ 0 ≤ (hi j).toInt ∧ (hi j).toInt ≤ 200) (hs : ((sq.toNatClampNeg : Nat) : Int) < s)
    (A : SrX2 lo hi (TU0 ff cr fp fx sq.toNatClampNeg) (TU0 ff cr fp fy sq.toNatClampNeg) (TU1 ff cr fp fx sq.toNatClampNeg) (TU1 ff cr fp fy sq.toNatClampNeg) h.toNat (fTx h fp fh fx fy (-1) 0 cr t ff fo 0 0 0 sq.toNatClampNeg).toInt64 (fTx h fp fh fx fy (-1) 0 cr t ff fo 0 1 1 sq.toNatClampNeg).toInt64 (fTx h fp fh fx fy (-1) 0 cr t ff fo 1 0 0 sq.toNatClampNeg).toInt64 (fTx h fp fh fx fy (-1) 0 cr t ff fo 1 1 1 sq.toNatClampNeg).toInt64 k v) (D : SrM2 (CRB gr gf go X Y sq) lo' hi' gp gx gy gh h.toNat k v') : v = v' := by
  obtain ⟨ffr, fup, fpu, fsx, fsy, fsz, fxx, fyy, a1, ⟨a2, a3⟩, ⟨a4, a5⟩, a6⟩ := A
  obtain ⟨fa, flo, fhi, L, b1, b2, b3⟩ := D
  have z0 := felt_same (ph := -1) (bq := 0) (k := sq.toNatClampNeg) B E (by decide) hs
  have z1 := felt_same (ph := -1) (bq := 1) (k := sq.toNatClampNeg) B E (by decide) hs
  obtain ⟨B1, B2, B3, B4, B5, B6, B7, B8, B9⟩ := B
  obtain ⟨E1, E2, E3, E4, E5, E6, E7, E8⟩ := E
  have hL : ∀ j : Nat, j < 4 → L j = ldp h gp gh gx gy (-1) 0 j := fun j hj => (b2 j hj).trans (ldp_ldq h0 j)
  have hLb : ∀ j : Nat, j < 4 → -16236 ≤ (L j).toInt ∧ (L j).toInt ≤ 16236 := fun j hj => by
    have z := ldp_E (ph := -1) (po := 0) B1 E1 E2 E3 E4 B2 B3 B4 B5 hj
    rw [hL j hj, ← z.1]
    exact z.2
  have hXb : ∀ j : Nat, j < 4 → (-9999 ≤ (X j).toInt ∧ (X j).toInt ≤ 9999) ∧ -9999 ≤ (Y j).toInt ∧ (Y j).toInt ≤ 9999 := fun j hj => by
    obtain ⟨e1, e2⟩ := E6 j hj
    rw [← e1, ← e2]
    exact ⟨B7 _ (by omega), B7 _ (by omega)⟩
  have R0 : SR2 gr X Y gf go sq.toNatClampNeg 0 k L (trn 2 fxx, trn 2 fyy) := by
    have c0 := fRx_congr (cr := gr) (m := X) (ff := gf) (fo := go) (bq := 0) (k := sq.toNatClampNeg) hL
    have c1 := fRx_congr (cr := gr) (m := Y) (ff := gf) (fo := go) (bq := 0) (k := sq.toNatClampNeg) hL
    have c2 := fRx_congr (cr := gr) (m := X) (ff := gf) (fo := go) (bq := 1) (k := sq.toNatClampNeg) hL
    have c3 := fRx_congr (cr := gr) (m := Y) (ff := gf) (fo := go) (bq := 1) (k := sq.toNatClampNeg) hL
    refine ⟨⟨⟨?_, ?_⟩, ?_, ?_⟩, ⟨BI.zero (hXb 0 (by decide)).1 (hLb 0 (by decide)), BI.zero (hXb 0 (by decide)).2 (hLb 1 (by decide))⟩, BI.zero (hXb 1 (by decide)).1 (hLb 2 (by decide)), BI.zero (hXb 1 (by decide)).2 (hLb 3 (by decide))⟩
    · exact (trn_in (n := 2) (p := 0) (by decide)).trans (a2.trans (z0.1.1.symm.trans c0.1.symm))
    · exact (trn_in (n := 2) (p := 0) (by decide)).trans (a3.trans (z0.2.1.symm.trans c1.2.symm))
    · exact (trn_in (n := 2) (p := 1) (by decide)).trans (a4.trans (z1.1.1.symm.trans c2.1.symm))
    · exact (trn_in (n := 2) (p := 1) (by decide)).trans (a5.trans (z1.2.1.symm.trans c3.2.symm))
  have cost : ∀ {i : Nat} {k : Int} {l : Nat → Int32} {u : CSt}, SR2 gr X Y gf go sq.toNatClampNeg i k l u → CC 2 u = CRB gr gf go X Y sq l := fun {i k l u} r => by
    obtain ⟨⟨⟨r1, r2⟩, r3, r4⟩, -⟩ := r
    show (0 + szL (u.1 0) (u.2 0) + szL (u.1 1) (u.2 1)).toInt = (0 + szL _ _ + szL _ _ : Int64).toInt
    rw [r1, r2, r3, r4]
  have at_ : ∀ i : Nat, i < h.toNat → (fa i).toNatClampNeg = i ∧ (ffr i = flo i ∧ fup i = fhi i) ∧ ((-200 ≤ (ffr i).toInt ∧ (ffr i).toInt ≤ 0) ∧ 0 ≤ (fup i).toInt ∧ (fup i).toInt ≤ 200) ∧ ((fsx i = (gf sq.toNatClampNeg * gr (gp i).toNatClampNeg * gx i).toInt64 ∧ fsy i = (gf sq.toNatClampNeg * gr (gp i).toNatClampNeg * gy i).toInt64) ∧ fsx (16 + i) = (gf sq.toNatClampNeg * gr (2 + gp i).toNatClampNeg * gx i).toInt64 ∧ fsy (16 + i) = (gf sq.toNatClampNeg * gr (2 + gp i).toNatClampNeg * gy i).toInt64) ∧ (0 ≤ (gp i).toInt ∧ (gp i).toInt ≤ 1) ∧ (-99 ≤ (gx i).toInt ∧ (gx i).toInt ≤ 99) ∧ -99 ≤ (gy i).toInt ∧ (gy i).toInt ≤ 99 := fun i hi_ => by
    obtain ⟨c1, c2, ⟨c3, c4⟩, ⟨c5, c6⟩, -, -⟩ := a1 i hi_
    obtain ⟨d1, d2, d3⟩ := b1 i hi_
    have hj : (i : Int) < h := by omega
    obtain ⟨h1, h2⟩ := hlo i hj
    obtain ⟨i1, i2⟩ := tw_ix (hp i hj)
    have q1 : TU0 ff cr fp fx sq.toNatClampNeg i = gf sq.toNatClampNeg * gr (gp i).toNatClampNeg * gx i := by
      show ff sq.toNatClampNeg * cr (fp i).toNatClampNeg * fx i = _
      rw [E7 _ hs, E5 _ i1, E1 i hj, E3 i hj]
    have q2 : TU0 ff cr fp fy sq.toNatClampNeg i = gf sq.toNatClampNeg * gr (gp i).toNatClampNeg * gy i := by
      show ff sq.toNatClampNeg * cr (fp i).toNatClampNeg * fy i = _
      rw [E7 _ hs, E5 _ i1, E1 i hj, E4 i hj]
    have q3 : TU1 ff cr fp fx sq.toNatClampNeg i = gf sq.toNatClampNeg * gr (2 + gp i).toNatClampNeg * gx i := by
      show ff sq.toNatClampNeg * cr (2 + fp i).toNatClampNeg * fx i = _
      rw [E7 _ hs, E5 _ i2, E1 i hj, E3 i hj]
    have q4 : TU1 ff cr fp fy sq.toNatClampNeg i = gf sq.toNatClampNeg * gr (2 + gp i).toNatClampNeg * gy i := by
      show ff sq.toNatClampNeg * cr (2 + fp i).toNatClampNeg * fy i = _
      rw [E7 _ hs, E5 _ i2, E1 i hj, E4 i hj]
    rw [q1] at c3
    rw [q2] at c4
    rw [q3] at c5
    rw [q4] at c6
    refine ⟨(congrArg Int.toNat d1).trans (Int.toNat_natCast _), ⟨c1.trans (h1.trans d2.symm), c2.trans (h2.trans d3.symm)⟩, ?_, ⟨⟨c3, c4⟩, c5, c6⟩, ?_, ?_, ?_⟩
    · rw [c1, c2]
      exact hb i hj
    · rw [← E1 i hj]
      exact hp i hj
    · rw [← E3 i hj]
      exact B3 i hj
    · rw [← E4 i hj]
      exact B4 i hj
  have stp : ∀ (i : Nat) (k : Int) (l : Nat → Int32) (u : CSt) (w : Int), i < h.toNat → (-200 ≤ w ∧ w ≤ 200) → SR2 gr X Y gf go sq.toNatClampNeg i k l u → SR2 gr X Y gf go sq.toNatClampNeg (i + 1) (k - 1) (stM fa gp gx gy i w l) (stC 2 fsx fsy i w u) := fun i k l u w hi_ hw r => by
    obtain ⟨g1, -, -, ⟨⟨g4, g5⟩, g6, g7⟩, g8, g9, g10⟩ := at_ i hi_
    exact SR2.step (p := gp i) (x := gx i) (y := gy i) (by omega) hw g9 g10 g8 (by rw [← E7 _ hs]; exact B8 _ hs) (fun j hj => by rw [← E5 j hj]; exact B6 j hj) g4 g5 g6 g7 r (by
      unfold stM
      rw [g1])
  have skp : ∀ (i : Nat) (k : Int) (l : Nat → Int32) (u : CSt), SR2 gr X Y gf go sq.toNatClampNeg i k l u → SR2 gr X Y gf go sq.toNatClampNeg (i + 1) k l u := fun i k l u r => by
    obtain ⟨r1, ⟨r2, r3⟩, r4, r5⟩ := r
    exact ⟨r1, ⟨r2.up, r3.up⟩, r4.up, r5.up⟩
  refine Int64.toInt_inj.mp (Least.uniq a6 b3 (fun t ht => ?_) (fun t ht => ?_))
  · obtain ⟨w, k', w1, w2⟩ := Rch_sim (st := stC 2 fsx fsy) (st' := stM fa gp gx gy) (R := fun i k s l => SR2 gr X Y gf go sq.toNatClampNeg i k l s) (g := fun v => v) (n := h.toNat) (lo := fun j => (ffr j).toInt) (hi := fun j => (fup j).toInt) (lo' := fun j => (flo j).toInt) (hi' := fun j => (fhi j).toInt) (fun i hi_ v hv_ => by
        obtain ⟨-, ⟨g1, g2⟩, -⟩ := at_ i hi_
        show (flo i).toInt ≤ v ∧ v ≤ (fhi i).toInt
        rw [← g1, ← g2]
        exact hv_) (fun v => Iff.rfl) (fun i k s l v hi_ hv_ _ _ r => stp i k l s v hi_ (by
        obtain ⟨-, -, g6, -⟩ := at_ i hi_
        have hv2 : (ffr i).toInt ≤ v ∧ v ≤ (fup i).toInt := hv_
        omega) r) (fun i k s l _ r => skp i k l s r) (Nat.zero_add _) R0 ht
    exact ⟨w, w1, (cost w2).symm⟩
  · obtain ⟨w, k', w1, w2⟩ := Rch_sim (st := stM fa gp gx gy) (st' := stC 2 fsx fsy) (R := fun i k l s => SR2 gr X Y gf go sq.toNatClampNeg i k l s) (g := fun v => v) (n := h.toNat) (lo := fun j => (flo j).toInt) (hi := fun j => (fhi j).toInt) (lo' := fun j => (ffr j).toInt) (hi' := fun j => (fup j).toInt) (fun i hi_ v hv_ => by
        obtain ⟨-, ⟨g1, g2⟩, -⟩ := at_ i hi_
        show (ffr i).toInt ≤ v ∧ v ≤ (fup i).toInt
        rw [g1, g2]
        exact hv_) (fun v => Iff.rfl) (fun i k l s v hi_ hv_ _ _ r => stp i k l s v hi_ (by
        obtain ⟨-, ⟨g1, g2⟩, g6, -⟩ := at_ i hi_
        have hv2 : (flo i).toInt ≤ v ∧ v ≤ (fhi i).toInt := hv_
        rw [g1, g2] at g6
        omega) r) (fun i k l s _ r => skp i k l s r) (Nat.zero_add _) R0 ht
    exact ⟨w, w1, cost w2⟩
theorem two_same {h s : Int} {fp fh fx fy cr t ff fo gp gh gx gy gr X Y gf go lo hi lo' hi' : Nat → Int32} {sq : Int32} {k : Int} {v v' : Int64} (h0 : 0 ≤ h) (B : FB h s fp fh fx fy 0 cr t ff fo) (E : FE h s fp fh fx fy cr t ff fo gp gh gx gy gr X Y gf go) (hp : ∀ j : Nat, (j : Int) < h → 0 ≤ (fp j).toInt ∧ (fp j).toInt ≤ 1) (hlo : ∀ j : Nat, (j : Int) < h → lo j = lo' j ∧ hi j = hi' j) (hb : ∀ j : Nat, (j : Int) < h → (-200 ≤ (lo j).toInt ∧ (lo j).toInt ≤ 0) ∧ 0 ≤ (hi j).toInt ∧ (hi j).toInt ≤ 200)
    (A : SrE (0 ≤ sq.toInt ∧ sq.toInt < s) (SrX2 lo hi (TU0 ff cr fp fx sq.toNatClampNeg) (TU0 ff cr fp fy sq.toNatClampNeg) (TU1 ff cr fp fx sq.toNatClampNeg) (TU1 ff cr fp fy sq.toNatClampNeg) h.toNat (fTx h fp fh fx fy (-1) 0 cr t ff fo 0 0 0 sq.toNatClampNeg).toInt64 (fTx h fp fh fx fy (-1) 0 cr t ff fo 0 1 1 sq.toNatClampNeg).toInt64 (fTx h fp fh fx fy (-1) 0 cr t ff fo 1 0 0 sq.toNatClampNeg).toInt64 (fTx h fp fh fx fy (-1) 0 cr t ff fo 1 1 1 sq.toNatClampNeg).toInt64 k v) v) (D : SrE (0 ≤ sq.toInt ∧ sq.toInt < s) (SrM2 (CRB gr gf go X Y sq) lo' hi' gp gx gy gh h.toNat k v') v') : v = v' := by
  by_cases ok : 0 ≤ sq.toInt ∧ sq.toInt < s
  · exact SrE.same (fun a b => two_core h0 B E hp hlo hb (show ((sq.toInt.toNat : Nat) : Int) < s by omega) a b) A D
  · rcases A with ⟨_, a⟩ | ⟨a, _⟩
    · rcases D with ⟨_, b⟩ | ⟨b, _⟩
      · exact a.trans b.symm
      · exact absurd b ok
    · exact absurd a ok
/-- what the class's search leans on -/
theorem two_bT {h s : Int} {fp fh fx fy cr t ff fo : Nat → Int32} {k : Nat} (B : FB h s fp fh fx fy 0 cr t ff fo) (hp : ∀ j : Nat, (j : Int) < h → 0 ≤ (fp j).toInt ∧ (fp j).toInt ≤ 1) (hk : (k : Int) < s) : ∀ j, j < h.toNat → BT4 (TU0 ff cr fp fx k j) (TU0 ff cr fp fy k j) (TU1 ff cr fp fx k j) (TU1 ff cr fp fy k j) := fun j hj => by
  obtain ⟨B1, B2, B3, B4, B5, B6, B7, B8, B9⟩ := B
  have hj2 : (j : Int) < h := by omega
  obtain ⟨i1, i2⟩ := tw_ix (hp j hj2)
  exact ⟨⟨(tw_e3 (B8 k hk) (B6 _ i1) (B3 j hj2)).2, (tw_e3 (B8 k hk) (B6 _ i1) (B4 j hj2)).2⟩, (tw_e3 (B8 k hk) (B6 _ i2) (B3 j hj2)).2, (tw_e3 (B8 k hk) (B6 _ i2) (B4 j hj2)).2⟩
theorem two_bF {h s : Int} {fp fh fx fy cr t ff fo gp gh gx gy gr X Y gf go : Nat → Int32} {k : Nat} (B : FB h s fp fh fx fy 0 cr t ff fo) (E : FE h s fp fh fx fy cr t ff fo gp gh gx gy gr X Y gf go) (hk : (k : Int) < s) : FB4 (fTx h fp fh fx fy (-1) 0 cr t ff fo 0 0 0 k) (fTx h fp fh fx fy (-1) 0 cr t ff fo 0 1 1 k) (fTx h fp fh fx fy (-1) 0 cr t ff fo 1 0 0 k) (fTx h fp fh fx fy (-1) 0 cr t ff fo 1 1 1 k) := by
  have z0 := felt_same (ph := -1) (bq := 0) (k := k) B E (by decide) hk
  have z1 := felt_same (ph := -1) (bq := 1) (k := k) B E (by decide) hk
  obtain ⟨⟨-, x1, x2⟩, -, y1, y2⟩ := z0
  obtain ⟨⟨-, x3, x4⟩, -, y3, y4⟩ := z1
  unfold FB4
  omega
