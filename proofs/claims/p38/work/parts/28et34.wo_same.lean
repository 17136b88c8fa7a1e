/-! worst: the class's search and the reference's end alike -/
def BJ (i : Nat) (a : Int32) : Prop := -(100000 + 20000 * (i : Int)) ≤ a.toInt ∧ a.toInt ≤ 100000 + 20000 * (i : Int)
theorem BJ.up {i : Nat} {a : Int32} (h : BJ i a) : BJ (i + 1) a := by
  unfold BJ at h ⊢
  omega
theorem BJ.zero {a l : Int32} (ha : -9999 ≤ a.toInt ∧ a.toInt ≤ 9999) (hl : -90000 ≤ l.toInt ∧ l.toInt ≤ 90000) : BJ 0 (a + l) := by
  have e : (a + l).toInt = a.toInt + l.toInt := tI_add rfl rfl (by omega)
  unfold BJ
  rw [e]
  omega
theorem wo_e {f x : Int32} (hf : 0 ≤ f.toInt ∧ f.toInt ≤ 9) (hx : -500000 ≤ x.toInt ∧ x.toInt ≤ 500000) : (f * x).toInt64 = f.toInt64 * x.toInt64 := by
  have m := mul_b (A := 9) (B := 500000) (a := f.toInt) (b := x.toInt) (by omega) hx
  have e1 : (f * x).toInt = f.toInt * x.toInt := tI_mul rfl rfl (by omega)
  have e2 : (f.toInt64 * x.toInt64).toInt = f.toInt * x.toInt := tJ_mul (Int32.toInt_toInt64 _) (Int32.toInt_toInt64 _) (by omega)
  exact Int64.toInt_inj.mp (by rw [Int32.toInt_toInt64, e1, e2])
theorem wo_ring {F A V x : Int64} : F * A + V * (F * x) = F * (A + V * x) := by grind
def SRW (ff PX PY : Nat → Int32) (n i : Nat) (_k : Int) (l : Nat → Int32) (u : CSt) : Prop := (∀ p, p < n → u.1 p = (ff p).toInt64 * (PX p + l 0).toInt64 ∧ u.2 p = (ff p).toInt64 * (PY p + l 1).toInt64) ∧ ∀ p, p < n → BJ i (PX p + l 0) ∧ BJ i (PY p + l 1)
theorem SRW.step {ff PX PY l l' : Nat → Int32} {n i : Nat} {k : Int} {u : CSt} {fsx fsy : Nat → Int64} {x y : Int32} {v : Int} (hi : i < 16) (hv : -200 ≤ v ∧ v ≤ 200) (hx : -99 ≤ x.toInt ∧ x.toInt ≤ 99) (hy : -99 ≤ y.toInt ∧ y.toInt ≤ 99) (hf : ∀ p, p < n → 0 ≤ (ff p).toInt ∧ (ff p).toInt ≤ 9) (ha : ∀ p, p < n → fsx (16 * p + i) = (ff p * x).toInt64 ∧ fsy (16 * p + i) = (ff p * y).toInt64) (R : SRW ff PX PY n i k l u) (l0 : l' 0 = l 0 + Int32.ofInt v * x) (l1 : l' 1 = l 1 + Int32.ofInt v * y) : SRW ff PX PY n (i + 1) (k - 1) l' (stC n fsx fsy i v u) := by
  obtain ⟨r1, r2⟩ := R
  refine ⟨fun p hp => ?_, fun p hp => ?_⟩
  · obtain ⟨a1, a2⟩ := r1 p hp
    obtain ⟨b1, b2⟩ := r2 p hp
    obtain ⟨c1, c2⟩ := ha p hp
    obtain ⟨s1, -⟩ := step_L hi b1 hv hx
    obtain ⟨t1, -⟩ := step_L hi b2 hv hy
    refine ⟨(trn_in (x := fun p => u.1 p + Int64.ofInt v * fsx (16 * p + i)) hp).trans ?_, (trn_in (x := fun p => u.2 p + Int64.ofInt v * fsy (16 * p + i)) hp).trans ?_⟩
    · show u.1 p + Int64.ofInt v * fsx (16 * p + i) = _
      rw [a1, c1, wo_e (hf p hp) (by omega), l0, ← s1]
      exact wo_ring
    · show u.2 p + Int64.ofInt v * fsy (16 * p + i) = _
      rw [a2, c2, wo_e (hf p hp) (by omega), l1, ← t1]
      exact wo_ring
  · obtain ⟨b1, b2⟩ := r2 p hp
    rw [l0, l1]
    exact ⟨(step_L hi b1 hv hx).2, (step_L hi b2 hv hy).2⟩
theorem wPX_b {fa fx : Nat → Int32} {t : Int32} {p : Nat} (ht : -9999 ≤ t.toInt ∧ t.toInt ≤ 9999) (hx : -9999 ≤ (fx p).toInt ∧ (fx p).toInt ≤ 9999) : -9999 ≤ (wPX fa fx t p).toInt ∧ (wPX fa fx t p).toInt ≤ 9999 := by
  by_cases c : (fa p).toInt = 0
  · rw [wPX_z c]
    exact ht
  · rw [wPX_n c]
    exact hx
theorem wPX_cg {fa fx ga gx : Nat → Int32} {t : Int32} {p : Nat} (h1 : fa p = ga p) (h2 : fx p = gx p) : wPX fa fx t p = wPX ga gx t p := by
  unfold wPX
  rw [h1, h2]
theorem worst_core {h s : Int} {fp fh fx fy t ff fA fX fY gp gh gx gy X Y gf gA gX gY lo hi lo' hi' : Nat → Int32} {k : Int} {v v' : Int64} (h16 : h ≤ 16) (E1 : EH h fp gp) (E2 : EH h fh gh) (E3 : EH h fx gx) (E4 : EH h fy gy) (E6 : pr4 t X Y) (E7 : EH s ff gf) (B2 : ∀ j : Nat, (j : Int) < h → 0 ≤ (fh j).toInt ∧ (fh j).toInt ≤ 9) (B3 : ∀ j : Nat, (j : Int) < h → -99 ≤ (fx j).toInt ∧ (fx j).toInt ≤ 99) (B4 : ∀ j : Nat, (j : Int) < h → -99 ≤ (fy j).toInt ∧ (fy j).toInt ≤ 99) (B7 : b8 t) (B8 : ∀ j : Nat, (j : Int) < s → 0 ≤ (ff j).toInt ∧ (ff j).toInt ≤ 9) (Ea : ∀ j : Nat, (j : Int) < s → (fA j = gA j ∧ fX j = gX j ∧ fY j = gY j) ∧ (-9999 ≤ (fX j).toInt ∧ (fX j).toInt ≤ 9999) ∧ -9999 ≤ (fY j).toInt ∧ (fY j).toInt ≤ 9999) (hlo : ∀ j : Nat, (j : Int) < h → lo j = lo' j ∧ hi j = hi' j) (hb : ∀ j : Nat, (j : Int) < h → (-200 ≤ (lo j).toInt ∧ (lo j).toInt ≤ 0) ∧ 0 ≤ (hi j).toInt ∧ (hi j).toInt ≤ 200)
    (A : SrXW (fun j => (fp j).toInt = 0) lo hi (fun p j => ff p * fx j) (fun p j => ff p * fy j) (fun p => ff p * (wPX fA fX (t 0) p + lw fp fh fx 0 h.toNat)) (fun p => ff p * (wPX fA fY (t 1) p + lw fp fh fy 0 h.toNat)) s.toNat h.toNat k v) (D : SrMW (CRW gf gA gX gY X Y s.toNat) (fun j => (gp j).toInt = 0) lo' hi' gp gx gy gh h.toNat k v') : v = v' := by
  obtain ⟨ffr, fup, fpu, fsx, fsy, fxx, fyy, a1, a2, a3⟩ := A
  obtain ⟨fa, flo, fhi, L, b1, b2, b3⟩ := D
  have hP : ∀ j, j < h.toNat → ((fp j).toInt = 0 ↔ (gp j).toInt = 0) := fun j hj => by rw [E1 j (by omega)]
  have eC : slC (fun j => (fp j).toInt = 0) h.toNat = slC (fun j => (gp j).toInt = 0) h.toNat := slC_cg hP
  have eI : ∀ j, slI (fun j => (fp j).toInt = 0) h.toNat j = slI (fun j => (gp j).toInt = 0) h.toNat j := fun j => slI_cg hP
  have eN : ∀ f : Nat → Int32, lw gp (its gh (-1) 0) f 0 h.toNat = lw gp gh f 0 h.toNat := fun f => lw_congr (fun j _ => ⟨rfl, its_0, rfl⟩)
  have L0 : L 0 = lw fp fh fx 0 h.toNat := (b2 0 (by decide)).trans ((show ldq gp (its gh (-1) 0) gx gy h.toNat 0 = lw gp (its gh (-1) 0) gx 0 h.toNat from if_pos rfl).trans ((eN gx).trans (lw_congr (fun j hj => ⟨(E1 j (by omega)).symm, (E2 j (by omega)).symm, (E3 j (by omega)).symm⟩))))
  have L1 : L 1 = lw fp fh fy 0 h.toNat := (b2 1 (by decide)).trans ((show ldq gp (its gh (-1) 0) gx gy h.toNat 1 = lw gp (its gh (-1) 0) gy 0 h.toNat from (if_neg (by decide)).trans (if_pos rfl)).trans ((eN gy).trans (lw_congr (fun j hj => ⟨(E1 j (by omega)).symm, (E2 j (by omega)).symm, (E4 j (by omega)).symm⟩))))
  have bX := lw_bound (fp := fp) (w := 0) (N := h.toNat) (by omega) (fun j hj => B2 j (by omega)) (fun j hj => B3 j (by omega)) (n := h.toNat) (Nat.le_refl h.toNat)
  have bY := lw_bound (fp := fp) (w := 0) (N := h.toNat) (by omega) (fun j hj => B2 j (by omega)) (fun j hj => B4 j (by omega)) (n := h.toNat) (Nat.le_refl h.toNat)
  have t0 := B7 0 (by decide)
  have t1 := B7 1 (by decide)
  have e60 : t 0 = X 0 := (E6 0 (by decide)).1
  have e61 : t 1 = Y 0 := (E6 0 (by decide)).2
  have hBJ : ∀ p, p < s.toNat → BJ 0 (wPX gA gX (X 0) p + L 0) ∧ BJ 0 (wPX gA gY (Y 0) p + L 1) := fun p hp => by
    obtain ⟨⟨q1, q2, q3⟩, q4, q5⟩ := Ea p (by omega)
    rw [← wPX_cg q1 q2, ← wPX_cg q1 q3, L0, L1, ← e60, ← e61]
    exact ⟨BJ.zero (wPX_b t0 q4) (by omega), BJ.zero (wPX_b t1 q5) (by omega)⟩
  have R0 : SRW gf (wPX gA gX (X 0)) (wPX gA gY (Y 0)) s.toNat 0 k L (trn s.toNat fxx, trn s.toNat fyy) := by
    refine ⟨fun p hp => ?_, hBJ⟩
    obtain ⟨⟨q1, q2, q3⟩, q4, q5⟩ := Ea p (by omega)
    obtain ⟨u1, u2⟩ := a2 p hp
    obtain ⟨j1, j2⟩ := hBJ p hp
    unfold BJ at j1 j2
    have f9 := B8 p (by omega)
    rw [E7 p (by omega)] at f9
    refine ⟨(trn_in hp).trans (u1.trans ?_), (trn_in hp).trans (u2.trans ?_)⟩
    · show (ff p * (wPX fA fX (t 0) p + lw fp fh fx 0 h.toNat)).toInt64 = _
      rw [E7 p (by omega), wPX_cg q1 q2, e60, ← L0]
      exact wo_e f9 (by omega)
    · show (ff p * (wPX fA fY (t 1) p + lw fp fh fy 0 h.toNat)).toInt64 = _
      rw [E7 p (by omega), wPX_cg q1 q3, e61, ← L1]
      exact wo_e f9 (by omega)
  have cost : ∀ {i : Nat} {k : Int} {l : Nat → Int32} {u : CSt}, SRW gf (wPX gA gX (X 0)) (wPX gA gY (Y 0)) s.toNat i k l u → CM s.toNat u = CRW gf gA gX gY X Y s.toNat l := fun {i k l u} r => by
    unfold CRW askW
    rw [show (0 : Int32).toNatClampNeg = 0 from by decide, show (1 : Int32).toNatClampNeg = 1 from by decide]
    exact congrArg Int64.toInt (cm_congr (fun p hp => r.1 p hp))
  have at_ : ∀ i, i < slC (fun j => (fp j).toInt = 0) h.toNat → ((ffr i = flo i ∧ fup i = fhi i) ∧ ((-200 ≤ (ffr i).toInt ∧ (ffr i).toInt ≤ 0) ∧ 0 ≤ (fup i).toInt ∧ (fup i).toInt ≤ 200)) ∧ (∀ p, p < s.toNat → fsx (16 * p + i) = (gf p * gx (fa i).toNatClampNeg).toInt64 ∧ fsy (16 * p + i) = (gf p * gy (fa i).toNatClampNeg).toInt64) ∧ gp (fa i).toNatClampNeg = 0 ∧ (-99 ≤ (gx (fa i).toNatClampNeg).toInt ∧ (gx (fa i).toNatClampNeg).toInt ≤ 99) ∧ -99 ≤ (gy (fa i).toNatClampNeg).toInt ∧ (gy (fa i).toNatClampNeg).toInt ≤ 99 := fun i hi_ => by
    obtain ⟨c1, c2, c3, -⟩ := a1 i hi_
    obtain ⟨d1, d2, d3⟩ := b1 i (by rw [← eC]; exact hi_)
    have s1 := slI_lt hi_
    rw [← eI] at d1 d2 d3
    have ef : (fa i).toNatClampNeg = slI (fun j => (fp j).toInt = 0) h.toNat i := (congrArg Int.toNat d1).trans (Int.toNat_natCast _)
    have hj : ((slI (fun j => (fp j).toInt = 0) h.toNat i : Nat) : Int) < h := by
      have z := s1.1
      omega
    obtain ⟨h1, h2⟩ := hlo _ hj
    have z0 : (0 : Int32).toInt = 0 := by decide
    rw [ef, c1, c2, d2, d3, ← E3 _ hj, ← E4 _ hj]
    refine ⟨⟨⟨h1, h2⟩, hb _ hj⟩, fun p hp => ?_, Int32.toInt_inj.mp (((hP _ s1.1).mp s1.2).trans z0.symm), B3 _ hj, B4 _ hj⟩
    rw [← E7 p (by omega)]
    exact c3 p hp
  have stp : ∀ (i : Nat) (k : Int) (l : Nat → Int32) (u : CSt) (w : Int), i < slC (fun j => (fp j).toInt = 0) h.toNat → (-200 ≤ w ∧ w ≤ 200) → SRW gf (wPX gA gX (X 0)) (wPX gA gY (Y 0)) s.toNat i k l u → SRW gf (wPX gA gX (X 0)) (wPX gA gY (Y 0)) s.toNat (i + 1) (k - 1) (stM fa gp gx gy i w l) (stC s.toNat fsx fsy i w u) := fun i k l u w hi_ hw r => by
    obtain ⟨-, g2, g3, g4, g5⟩ := at_ i hi_
    have l16 := slC_le (P := fun j => (fp j).toInt = 0) (n := h.toNat)
    refine SRW.step (x := gx (fa i).toNatClampNeg) (y := gy (fa i).toNatClampNeg) (by omega) hw g4 g5 (fun p hp => by rw [← E7 p (by omega)]; exact B8 p (by omega)) g2 r ?_ ?_
    · unfold stM
      rw [g3, show ((2 : Int32) * 0).toNatClampNeg = 0 from by decide, show ((2 : Int32) * 0 + 1).toNatClampNeg = 1 from by decide, upd_off (by decide), upd_at]
    · unfold stM
      rw [g3, show ((2 : Int32) * 0).toNatClampNeg = 0 from by decide, show ((2 : Int32) * 0 + 1).toNatClampNeg = 1 from by decide, upd_at, upd_off (by decide)]
  have skp : ∀ (i : Nat) (k : Int) (l : Nat → Int32) (u : CSt), SRW gf (wPX gA gX (X 0)) (wPX gA gY (Y 0)) s.toNat i k l u → SRW gf (wPX gA gX (X 0)) (wPX gA gY (Y 0)) s.toNat (i + 1) k l u := fun i k l u r => ⟨r.1, fun p hp => ⟨(r.2 p hp).1.up, (r.2 p hp).2.up⟩⟩
  rw [← eC] at b3
  have b4 : Least (CRW gf gA gX gY X Y s.toNat) v'.toInt (Rch (stM fa gp gx gy) (fun j => (flo j).toInt) (fun j => (fhi j).toInt) (slC (fun j => (fp j).toInt = 0) h.toNat) 0 k L) := b3
  refine Int64.toInt_inj.mp (Least.uniq a3 b4 (fun t ht => ?_) (fun t ht => ?_))
  · obtain ⟨w, k', w1, w2⟩ := Rch_sim (st := stC s.toNat fsx fsy) (st' := stM fa gp gx gy) (R := fun i k s9 l => SRW gf (wPX gA gX (X 0)) (wPX gA gY (Y 0)) s.toNat i k l s9) (g := fun v => v) (n := slC (fun j => (fp j).toInt = 0) h.toNat) (lo := fun j => (ffr j).toInt) (hi := fun j => (fup j).toInt) (lo' := fun j => (flo j).toInt) (hi' := fun j => (fhi j).toInt) (fun i hi_ v hv_ => by
        obtain ⟨⟨⟨g1, g2⟩, -⟩, -⟩ := at_ i hi_
        show (flo i).toInt ≤ v ∧ v ≤ (fhi i).toInt
        rw [← g1, ← g2]
        exact hv_) (fun v => Iff.rfl) (fun i k s9 l v hi_ hv_ _ _ r => stp i k l s9 v hi_ (by
        obtain ⟨⟨-, g6⟩, -⟩ := at_ i hi_
        have hv2 : (ffr i).toInt ≤ v ∧ v ≤ (fup i).toInt := hv_
        omega) r) (fun i k s9 l _ r => skp i k l s9 r) (Nat.zero_add _) R0 ht
    exact ⟨w, w1, (cost w2).symm⟩
  · obtain ⟨w, k', w1, w2⟩ := Rch_sim (st := stM fa gp gx gy) (st' := stC s.toNat fsx fsy) (R := fun i k l s9 => SRW gf (wPX gA gX (X 0)) (wPX gA gY (Y 0)) s.toNat i k l s9) (g := fun v => v) (n := slC (fun j => (fp j).toInt = 0) h.toNat) (lo := fun j => (flo j).toInt) (hi := fun j => (fhi j).toInt) (lo' := fun j => (ffr j).toInt) (hi' := fun j => (fup j).toInt) (fun i hi_ v hv_ => by
        obtain ⟨⟨⟨g1, g2⟩, -⟩, -⟩ := at_ i hi_
        show (ffr i).toInt ≤ v ∧ v ≤ (fup i).toInt
        rw [g1, g2]
        exact hv_) (fun v => Iff.rfl) (fun i k l s9 v hi_ hv_ _ _ r => stp i k l s9 v hi_ (by
        obtain ⟨⟨⟨g1, g2⟩, g6⟩, -⟩ := at_ i hi_
        have hv2 : (flo i).toInt ≤ v ∧ v ≤ (fhi i).toInt := hv_
        rw [g1, g2] at g6
        omega) r) (fun i k l s9 _ r => skp i k l s9 r) (Nat.zero_add _) R0 ht
    exact ⟨w, w1, cost w2⟩
theorem WsE.same {s : Int} {S S' : Prop} {v v' : Int64} (h : S → S' → v = v') (a : WsE s S v) (b : WsE s S' v') : v = v' := a.elim (fun x => b.elim (fun y => x.2.trans y.2.symm) (fun y => absurd x.1 y.1)) (fun x => b.elim (fun y => absurd y.1 x.1) (fun y => h x.2 y.2))
