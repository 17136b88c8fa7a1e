/-! the class's search and the reference's end alike -/
theorem its_0 {go : Nat → Int32} {j : Nat} : its go (-1) 0 j = go j := by
  unfold its
  by_cases c : (j : Int) = (-1 : Int32).toInt
  · rw [if_pos c]
    grind
  · rw [if_neg c]
    grind
theorem ldq_q {gp go gx gy : Nat → Int32} {n : Nat} {q : Int32} (hq : 0 ≤ q.toInt ∧ q.toInt ≤ 1) : ldq gp (its go (-1) 0) gx gy n (2 * q).toNatClampNeg = lw gp go gx q.toInt n ∧ ldq gp (its go (-1) 0) gx gy n ((2 * q) + 1).toNatClampNeg = lw gp go gy q.toInt n := by
  have e : ∀ f w, lw gp (its go (-1) 0) f w n = lw gp go f w n := fun f w => lw_congr (fun j _ => ⟨rfl, its_0, rfl⟩)
  obtain ⟨_, e1, e2⟩ := AB_ne hq
  rw [e1, e2]
  rcases (by omega : q.toInt = 0 ∨ q.toInt = 1) with c | c
  · rw [c]
    exact ⟨e gx 0, e gy 0⟩
  · rw [c]
    exact ⟨e gx 1, e gy 1⟩
/-- one step of each: the place of the pull alike -/
def SRr (fX fY : Nat → Int32) (q : Int32) (i : Nat) (_k : Int) (l : Nat → Int32) (s : CSt) : Prop := (s.1 0 = (fX q.toNatClampNeg + l (2 * q).toNatClampNeg).toInt64 ∧ s.2 0 = (fY q.toNatClampNeg + l ((2 * q) + 1).toNatClampNeg).toInt64) ∧ (-(100000 + 20000 * (i : Int)) ≤ (fX q.toNatClampNeg + l (2 * q).toNatClampNeg).toInt ∧ (fX q.toNatClampNeg + l (2 * q).toNatClampNeg).toInt ≤ 100000 + 20000 * (i : Int)) ∧ -(100000 + 20000 * (i : Int)) ≤ (fY q.toNatClampNeg + l ((2 * q) + 1).toNatClampNeg).toInt ∧ (fY q.toNatClampNeg + l ((2 * q) + 1).toNatClampNeg).toInt ≤ 100000 + 20000 * (i : Int)
theorem step_L {a l x : Int32} {v : Int} {i : Nat} (hi : i < 16) (ha : -(100000 + 20000 * (i : Int)) ≤ (a + l).toInt ∧ (a + l).toInt ≤ 100000 + 20000 * (i : Int)) (hv : -200 ≤ v ∧ v ≤ 200) (hx : -99 ≤ x.toInt ∧ x.toInt ≤ 99) : (a + l).toInt64 + Int64.ofInt v * x.toInt64 = (a + (l + Int32.ofInt v * x)).toInt64 ∧ -(100000 + 20000 * ((i + 1 : Nat) : Int)) ≤ (a + (l + Int32.ofInt v * x)).toInt ∧ (a + (l + Int32.ofInt v * x)).toInt ≤ 100000 + 20000 * ((i + 1 : Nat) : Int) := by
  have m := mul_b hv hx
  have e0 : (Int32.ofInt v).toInt = v := Int32.toInt_ofInt_of_le (by omega) (by omega)
  have E0 : (Int64.ofInt v).toInt = v := Int64.toInt_ofInt_of_le (by omega) (by omega)
  have e1 : (Int32.ofInt v * x).toInt = v * x.toInt := tI_mul e0 rfl (by omega)
  have E1 : (Int64.ofInt v * x.toInt64).toInt = v * x.toInt := tJ_mul E0 (Int32.toInt_toInt64 _) (by omega)
  have e2 : ((a + l) + Int32.ofInt v * x).toInt = (a + l).toInt + v * x.toInt := tI_add rfl e1 (by omega)
  have E2 : ((a + l).toInt64 + Int64.ofInt v * x.toInt64).toInt = (a + l).toInt + v * x.toInt := tJ_add (Int32.toInt_toInt64 _) E1 (by omega)
  rw [show a + (l + Int32.ofInt v * x) = (a + l) + Int32.ofInt v * x by grind]
  refine ⟨Int64.toInt_inj.mp (by rw [E2, Int32.toInt_toInt64, e2]), ?_, ?_⟩
  · rw [e2]
    omega
  · rw [e2]
    omega
theorem SrX.same {P P' : Nat → Prop} [DecidablePred P] [DecidablePred P'] {lo hi vx vy lo' hi' gp wx wy lx ly go fX fY : Nat → Int32} {n : Nat} {q : Int32} {X Y : Int64} {k : Int} {v v' : Int64} (hn : n ≤ 16) (hk : 0 ≤ k) (hq : 0 ≤ q.toInt ∧ q.toInt ≤ 1) (hP : ∀ j, j < n → (P j ↔ P' j)) (hPq : ∀ j, j < n → P' j → gp j = q) (hlo : ∀ j, j < n → (lo j = lo' j ∧ hi j = hi' j) ∧ vx j = wx j ∧ vy j = wy j) (hb : ∀ j, j < n → (-200 ≤ (lo j).toInt ∧ (lo j).toInt ≤ 0) ∧ 0 ≤ (hi j).toInt ∧ (hi j).toInt ≤ 200) (hv : ∀ j, j < n → (-99 ≤ (vx j).toInt ∧ (vx j).toInt ≤ 99) ∧ -99 ≤ (vy j).toInt ∧ (vy j).toInt ≤ 99)
    (hX : X = (fX q.toNatClampNeg + lw gp go lx q.toInt n).toInt64) (hY : Y = (fY q.toNatClampNeg + lw gp go ly q.toInt n).toInt64) (hXb : -100000 ≤ (fX q.toNatClampNeg + lw gp go lx q.toInt n).toInt ∧ (fX q.toNatClampNeg + lw gp go lx q.toInt n).toInt ≤ 100000) (hYb : -100000 ≤ (fY q.toNatClampNeg + lw gp go ly q.toInt n).toInt ∧ (fY q.toNatClampNeg + lw gp go ly q.toInt n).toInt ≤ 100000) (A : SrX P lo hi vx vy n X Y k v) (B : SrM P' lo' hi' gp wx wy lx ly go n fX fY q k v') : v = v' := by
  obtain ⟨ffr, fup, fpu, fsx, fsy, fsz, fxx, fyy, a1, a2, a3, a4⟩ := A
  obtain ⟨fa, flo, fhi, L, gx, gy, b0, b1, b2, b3⟩ := B
  have hlo : ∀ j, j < n → (lo j = lo' j ∧ hi j = hi' j) ∧ vx j = gx j ∧ vy j = gy j := fun j hj => ⟨(hlo j hj).1, (hlo j hj).2.1.trans (b0 j hj).1.symm, (hlo j hj).2.2.trans (b0 j hj).2.symm⟩
  have eC : slC P n = slC P' n := slC_cg hP
  have eI : ∀ j, slI P n j = slI P' n j := fun j => slI_cg hP
  obtain ⟨ab, ia, ib⟩ := AB_ne hq
  obtain ⟨l1, l2⟩ := ldq_q (gp := gp) (go := go) (gx := lx) (gy := ly) (n := n) hq
  have L1 : L (2 * q).toNatClampNeg = lw gp go lx q.toInt n := (b2 _ (by omega)).trans l1
  have L2 : L ((2 * q) + 1).toNatClampNeg = lw gp go ly q.toInt n := (b2 _ (by omega)).trans l2
  have R0 : SRr fX fY q 0 k L (trn 1 fxx, trn 1 fyy) := by
    unfold SRr
    rw [L1, L2]
    refine ⟨⟨?_, ?_⟩, by omega, by omega⟩
    · exact (trn_in (n := 1) (p := 0) (by decide)).trans (a2.trans hX)
    · exact (trn_in (n := 1) (p := 0) (by decide)).trans (a3.trans hY)
  have cost : ∀ {i : Nat} {k : Int} {l : Nat → Int32} {s : CSt}, SRr fX fY q i k l s → CC 1 s = CR fX fY q l := fun {i k l s} r => by
    obtain ⟨⟨r1, r2⟩, -⟩ := r
    show (0 + szL (s.1 0) (s.2 0)).toInt = (szL _ _).toInt
    rw [r1, r2, i64_0a]
  have at_ : ∀ i, i < slC P n → (ffr i = flo i ∧ fup i = fhi i) ∧ fsx i = (gx (fa i).toNatClampNeg).toInt64 ∧ fsy i = (gy (fa i).toNatClampNeg).toInt64 ∧ gp (fa i).toNatClampNeg = q ∧ ((-200 ≤ (ffr i).toInt ∧ (ffr i).toInt ≤ 0) ∧ 0 ≤ (fup i).toInt ∧ (fup i).toInt ≤ 200) ∧ (-99 ≤ (gx (fa i).toNatClampNeg).toInt ∧ (gx (fa i).toNatClampNeg).toInt ≤ 99) ∧ -99 ≤ (gy (fa i).toNatClampNeg).toInt ∧ (gy (fa i).toNatClampNeg).toInt ≤ 99 := fun i hi_ => by
    obtain ⟨c1, c2, c3, c4, -, -⟩ := a1 i hi_
    obtain ⟨d1, d2, d3⟩ := b1 i (by rw [← eC]; exact hi_)
    have s1 := slI_lt hi_
    rw [← eI] at d1 d2 d3
    have ef : (fa i).toNatClampNeg = slI P n i := (congrArg Int.toNat d1).trans (Int.toNat_natCast _)
    obtain ⟨⟨h1, h2⟩, h3, h4⟩ := hlo _ s1.1
    rw [ef, c1, c2, c3, c4, d2, d3, h1, h2, ← h3, ← h4]
    exact ⟨⟨rfl, rfl⟩, rfl, rfl, hPq _ s1.1 ((hP _ s1.1).mp s1.2), by rw [← h1, ← h2]; exact hb _ s1.1, hv _ s1.1⟩
  have stp : ∀ (i : Nat) (k : Int) (l : Nat → Int32) (s : CSt) (w : Int), i < slC P n → (-200 ≤ w ∧ w ≤ 200) → SRr fX fY q i k l s → SRr fX fY q (i + 1) (k - 1) (stM fa gp gx gy i w l) (stC 1 fsx fsy i w s) := fun i k l s w hi_ hw r => by
    obtain ⟨-, g3, g4, g5, -, g7, g8⟩ := at_ i hi_
    obtain ⟨⟨r1, r2⟩, r3, r4⟩ := r
    have hi16 : i < 16 := Nat.lt_of_lt_of_le hi_ (Nat.le_trans slC_le hn)
    obtain ⟨x1, x2⟩ := step_L hi16 r3 hw g7
    obtain ⟨y1, y2⟩ := step_L hi16 r4 hw g8
    have m1 : stM fa gp gx gy i w l (2 * q).toNatClampNeg = l (2 * q).toNatClampNeg + Int32.ofInt w * gx (fa i).toNatClampNeg := by
      unfold stM
      rw [g5, upd_off ab, upd_at]
    have m2 : stM fa gp gx gy i w l ((2 * q) + 1).toNatClampNeg = l ((2 * q) + 1).toNatClampNeg + Int32.ofInt w * gy (fa i).toNatClampNeg := by
      unfold stM
      rw [g5, upd_at, upd_off (fun z => ab z.symm)]
    unfold SRr
    rw [m1, m2]
    refine ⟨⟨?_, ?_⟩, x2, y2⟩
    · rw [← x1, ← r1, ← g3]
      exact (trn_in (n := 1) (p := 0) (x := fun p => s.1 p + Int64.ofInt w * fsx (16 * p + i)) (by decide)).trans (by
        show s.1 0 + Int64.ofInt w * fsx (16 * 0 + i) = _
        rw [show 16 * 0 + i = i by omega])
    · rw [← y1, ← r2, ← g4]
      exact (trn_in (n := 1) (p := 0) (x := fun p => s.2 p + Int64.ofInt w * fsy (16 * p + i)) (by decide)).trans (by
        show s.2 0 + Int64.ofInt w * fsy (16 * 0 + i) = _
        rw [show 16 * 0 + i = i by omega])
  have skp : ∀ (i : Nat) (k : Int) (l : Nat → Int32) (s : CSt), SRr fX fY q i k l s → SRr fX fY q (i + 1) k l s := fun i k l s r => by
    obtain ⟨r1, r2, r3⟩ := r
    exact ⟨r1, by omega, by omega⟩
  rw [← eC] at b3
  have b4 : Least (CR fX fY q) v'.toInt (Rch (stM fa gp gx gy) (fun j => (flo j).toInt) (fun j => (fhi j).toInt) (slC P n) 0 k L) := b3
  refine Int64.toInt_inj.mp (Least.uniq a4 b4 (fun t ht => ?_) (fun t ht => ?_))
  · obtain ⟨w, k', w1, w2⟩ := Rch_sim (st := stC 1 fsx fsy) (st' := stM fa gp gx gy) (R := fun i k s l => SRr fX fY q i k l s) (g := fun v => v) (n := slC P n) (lo := fun j => (ffr j).toInt) (hi := fun j => (fup j).toInt) (lo' := fun j => (flo j).toInt) (hi' := fun j => (fhi j).toInt) (fun i hi_ v hv_ => by
        obtain ⟨⟨g1, g2⟩, -⟩ := at_ i hi_
        show (flo i).toInt ≤ v ∧ v ≤ (fhi i).toInt
        rw [← g1, ← g2]
        exact hv_) (fun v => Iff.rfl) (fun i k s l v hi_ hv_ _ _ r => stp i k l s v hi_ (by
        obtain ⟨-, -, -, -, g6, -⟩ := at_ i hi_
        have hv2 : (ffr i).toInt ≤ v ∧ v ≤ (fup i).toInt := hv_
        omega) r) (fun i k s l _ r => skp i k l s r) (Nat.zero_add _) R0 ht
    exact ⟨w, w1, (cost w2).symm⟩
  · obtain ⟨w, k', w1, w2⟩ := Rch_sim (st := stM fa gp gx gy) (st' := stC 1 fsx fsy) (R := fun i k l s => SRr fX fY q i k l s) (g := fun v => v) (n := slC P n) (lo := fun j => (flo j).toInt) (hi := fun j => (fhi j).toInt) (lo' := fun j => (ffr j).toInt) (hi' := fun j => (fup j).toInt) (fun i hi_ v hv_ => by
        obtain ⟨⟨g1, g2⟩, -⟩ := at_ i hi_
        show (ffr i).toInt ≤ v ∧ v ≤ (fup i).toInt
        rw [g1, g2]
        exact hv_) (fun v => Iff.rfl) (fun i k l s v hi_ hv_ _ _ r => stp i k l s v hi_ (by
        obtain ⟨⟨g1, g2⟩, -, -, -, g6, -⟩ := at_ i hi_
        have hv2 : (flo i).toInt ≤ v ∧ v ≤ (fhi i).toInt := hv_
        rw [g1, g2] at g6
        omega) r) (fun i k l s _ r => skp i k l s r) (Nat.zero_add _) R0 ht
    exact ⟨w, w1, cost w2⟩
theorem SrE.same {ok S S' : Prop} {v v' : Int64} (h : S → S' → v = v') (a : SrE ok S v) (b : SrE ok S' v') : v = v' := a.elim (fun x => b.elim (fun y => x.2.trans y.2.symm) (fun y => absurd y.1 x.1)) (fun x => b.elim (fun y => absurd x.1 y.1) (fun y => h x.2 y.2))
theorem i32_2a0 {a : Int32} : a + 0 = a := by grind
theorem ux_b {ft fp fh fx : Nat → Int32} {q : Int32} {n j : Nat} (hn : n ≤ 16) (ht : b8 ft) (hj : j < 8) (hh : ∀ j, j < n → 0 ≤ (fh j).toInt ∧ (fh j).toInt ≤ 9) (hx : ∀ j, j < n → -99 ≤ (fx j).toInt ∧ (fx j).toInt ≤ 99) : -100000 ≤ (ft j + lw fp fh fx q.toInt n).toInt ∧ (ft j + lw fp fh fx q.toInt n).toInt ≤ 100000 := by
  have a := ht j hj
  have b := lw_bound (fp := fp) (w := q.toInt) (N := n) hn hh hx (n := n) (Nat.le_refl n)
  have e : (ft j + lw fp fh fx q.toInt n).toInt = (ft j).toInt + (lw fp fh fx q.toInt n).toInt := tI_add rfl rfl (by omega)
  rw [e]
  omega
theorem tq_ix {pq : Int32} (hq : 0 ≤ pq.toInt ∧ pq.toInt ≤ 1) : (2 * pq + 0).toNatClampNeg = 2 * pq.toNatClampNeg ∧ (2 * pq + 1).toNatClampNeg = 2 * pq.toNatClampNeg + 1 ∧ pq.toNatClampNeg < 4 := by
  obtain ⟨_, e1, e2⟩ := AB_ne hq
  have e3 : pq.toNatClampNeg = pq.toInt.toNat := rfl
  rw [i32_2a0, e1, e2, e3]
  omega
theorem srch_core {fp fx fy fh ft gp gx gy go X Y lo hi lo' hi' vx vy wx wy : Nat → Int32} {n : Nat} {pq : Int32} {k : Int} {v v' : Int64} (hn : n ≤ 16) (hq : 0 ≤ pq.toInt ∧ pq.toInt ≤ 1) (hk : 0 ≤ k) (ep : ∀ j, j < n → fp j = gp j) (ex : ∀ j, j < n → fx j = gx j) (ey : ∀ j, j < n → fy j = gy j) (eh : ∀ j, j < n → fh j = go j) (et : pr4 ft X Y) (ht : b8 ft) (hh : ∀ j, j < n → 0 ≤ (fh j).toInt ∧ (fh j).toInt ≤ 9) (hv : ∀ j, j < n → (-99 ≤ (fx j).toInt ∧ (fx j).toInt ≤ 99) ∧ -99 ≤ (fy j).toInt ∧ (fy j).toInt ≤ 99) (hw : ∀ j, j < n → ((-99 ≤ (vx j).toInt ∧ (vx j).toInt ≤ 99) ∧ -99 ≤ (vy j).toInt ∧ (vy j).toInt ≤ 99) ∧ vx j = wx j ∧ vy j = wy j) (hlo : ∀ j, j < n → lo j = lo' j ∧ hi j = hi' j) (hb : ∀ j, j < n → (-200 ≤ (lo j).toInt ∧ (lo j).toInt ≤ 0) ∧ 0 ≤ (hi j).toInt ∧ (hi j).toInt ≤ 200)
    (A : SrX (fun j => (fp j).toInt = pq.toInt) lo hi vx vy n (ft (2 * pq + 0).toNatClampNeg + lw fp fh (axs 0 fx fy) pq.toInt n).toInt64 (ft (2 * pq + 1).toNatClampNeg + lw fp fh (axs 1 fx fy) pq.toInt n).toInt64 k v) (B : SrM (fun j => (gp j).toInt = pq.toInt) lo' hi' gp wx wy gx gy go n X Y pq k v') : v = v' := by
  obtain ⟨i1, i2, i3⟩ := tq_ix hq
  obtain ⟨t1, t2⟩ := et _ i3
  have c1 : lw fp fh fx pq.toInt n = lw gp go gx pq.toInt n := lw_congr (fun j hj => ⟨ep j hj, eh j hj, ex j hj⟩)
  have c2 : lw fp fh fy pq.toInt n = lw gp go gy pq.toInt n := lw_congr (fun j hj => ⟨ep j hj, eh j hj, ey j hj⟩)
  have b1 := ux_b (fp := fp) (fx := fx) (q := pq) (j := 2 * pq.toNatClampNeg) hn ht (by omega) hh (fun j hj => (hv j hj).1)
  have b2 := ux_b (fp := fp) (fx := fy) (q := pq) (j := 2 * pq.toNatClampNeg + 1) hn ht (by omega) hh (fun j hj => (hv j hj).2)
  rw [t1, c1] at b1
  rw [t2, c2] at b2
  exact SrX.same (gp := gp) (lx := gx) (ly := gy) (go := go) (fX := X) (fY := Y) hn hk hq (fun j hj => by rw [ep j hj]) (fun j _ h => Int32.toInt_inj.mp h) (fun j hj => ⟨hlo j hj, (hw j hj).2⟩) hb (fun j hj => (hw j hj).1) (by rw [i1, t1]; show (_ + lw fp fh fx pq.toInt n).toInt64 = _; rw [c1]) (by rw [i2, t2]; show (_ + lw fp fh fy pq.toInt n).toInt64 = _; rw [c2]) b1 b2 A B
theorem srch_same {fp fx fy fh ft gp gx gy go X Y lo hi lo' hi' vx vy wx wy : Nat → Int32} {n : Nat} {pq kq : Int32} {m : Int} {v v' : Int64} (hn : n ≤ 16) (ep : ∀ j, j < n → fp j = gp j) (ex : ∀ j, j < n → fx j = gx j) (ey : ∀ j, j < n → fy j = gy j) (eh : ∀ j, j < n → fh j = go j) (et : pr4 ft X Y) (ht : b8 ft) (hh : ∀ j, j < n → 0 ≤ (fh j).toInt ∧ (fh j).toInt ≤ 9) (hv : ∀ j, j < n → (-99 ≤ (fx j).toInt ∧ (fx j).toInt ≤ 99) ∧ -99 ≤ (fy j).toInt ∧ (fy j).toInt ≤ 99) (hw : ∀ j, j < n → ((-99 ≤ (vx j).toInt ∧ (vx j).toInt ≤ 99) ∧ -99 ≤ (vy j).toInt ∧ (vy j).toInt ≤ 99) ∧ vx j = wx j ∧ vy j = wy j) (hlo : ∀ j, j < n → lo j = lo' j ∧ hi j = hi' j) (hb : ∀ j, j < n → (-200 ≤ (lo j).toInt ∧ (lo j).toInt ≤ 0) ∧ 0 ≤ (hi j).toInt ∧ (hi j).toInt ≤ 200)
    (A : SrE ((0 ≤ pq.toInt ∧ pq.toInt ≤ 1) ∧ 1 ≤ kq.toInt ∧ kq.toInt ≤ m) (SrX (fun j => (fp j).toInt = pq.toInt) lo hi vx vy n (ft (2 * pq + 0).toNatClampNeg + lw fp fh (axs 0 fx fy) pq.toInt n).toInt64 (ft (2 * pq + 1).toNatClampNeg + lw fp fh (axs 1 fx fy) pq.toInt n).toInt64 kq.toInt v) v) (B : SrE ((0 ≤ pq.toInt ∧ pq.toInt ≤ 1) ∧ 1 ≤ kq.toInt ∧ kq.toInt ≤ m) (SrM (fun j => (gp j).toInt = pq.toInt) lo' hi' gp wx wy gx gy go n X Y pq kq.toInt v') v') : v = v' := by
  by_cases ok : (0 ≤ pq.toInt ∧ pq.toInt ≤ 1) ∧ 1 ≤ kq.toInt ∧ kq.toInt ≤ m
  · exact SrE.same (fun a b => srch_core hn ok.1 (by omega) ep ex ey eh et ht hh hv hw hlo hb a b) A B
  · rcases A with ⟨_, a⟩ | ⟨a, _⟩
    · rcases B with ⟨_, b⟩ | ⟨b, _⟩
      · exact a.trans b.symm
      · exact absurd b ok
    · exact absurd a ok
theorem fewest_same {fp fx fy fh ft gp gx gy go X Y lo hi lo' hi' vx vy wx wy : Nat → Int32} {n : Nat} {pq : Int32} {b : Int} {v v' : Int32} (hn : n ≤ 16) (ep : ∀ j, j < n → fp j = gp j) (ex : ∀ j, j < n → fx j = gx j) (ey : ∀ j, j < n → fy j = gy j) (eh : ∀ j, j < n → fh j = go j) (et : pr4 ft X Y) (ht : b8 ft) (hh : ∀ j, j < n → 0 ≤ (fh j).toInt ∧ (fh j).toInt ≤ 9) (hv : ∀ j, j < n → (-99 ≤ (fx j).toInt ∧ (fx j).toInt ≤ 99) ∧ -99 ≤ (fy j).toInt ∧ (fy j).toInt ≤ 99) (hw : ∀ j, j < n → ((-99 ≤ (vx j).toInt ∧ (vx j).toInt ≤ 99) ∧ -99 ≤ (vy j).toInt ∧ (vy j).toInt ≤ 99) ∧ vx j = wx j ∧ vy j = wy j) (hlo : ∀ j, j < n → lo j = lo' j ∧ hi j = hi' j) (hb : ∀ j, j < n → (-200 ≤ (lo j).toInt ∧ (lo j).toInt ≤ 0) ∧ 0 ≤ (hi j).toInt ∧ (hi j).toInt ≤ 200)
    (A : FwR ((0 ≤ pq.toInt ∧ pq.toInt ≤ 1) ∧ 0 ≤ b) (fun k v => SrX (fun j => (fp j).toInt = pq.toInt) lo hi vx vy n (ft (2 * pq + 0).toNatClampNeg + lw fp fh (axs 0 fx fy) pq.toInt n).toInt64 (ft (2 * pq + 1).toNatClampNeg + lw fp fh (axs 1 fx fy) pq.toInt n).toInt64 k v) b v) (B : FwR ((0 ≤ pq.toInt ∧ pq.toInt ≤ 1) ∧ 0 ≤ b) (fun k v => SrM (fun j => (gp j).toInt = pq.toInt) lo' hi' gp wx wy gx gy go n X Y pq k v) b v') : v = v' := FwR.same (fun ok k k0 _ u u' a b => srch_core hn ok.1 k0 ep ex ey eh et ht hh hv hw hlo hb a b) A B
theorem ex_i32 {v : Int32} {Q : Int32 → Prop} (h : ∃ v' : Int32, (some (.int v) : Option Value) = some (.int v') ∧ Q v') : Q v := by
  obtain ⟨v', e, q⟩ := h
  obtain rfl := Value.int.inj (Option.some.inj e)
  exact q
theorem ex_lng {v : Int64} {Q : Int64 → Prop} (h : ∃ v' : Int64, (some (.long v) : Option Value) = some (.long v') ∧ Q v') : Q v := by
  obtain ⟨v', e, q⟩ := h
  obtain rfl := Value.long.inj (Option.some.inj e)
  exact q
