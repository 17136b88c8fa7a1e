/-! what is set apart for a speed: alike on both sides, now and in what is kept -/
theorem MilE.spd9 {kn jn kh jh ks js kc jc : Nat} {n : Int32} {f : Nat → Int32} {h s c : Int32} {r : Option Value} {w1 : va_W} (H : MilE kn jn kh jh ks js kc jc n f h s c r w1) {P : Prop} (k : ∀ s' : Int32, fget w1 ks js = some (.int s') → s.toInt ≤ s'.toInt → P) : P := by
  have H0 := H
  obtain ⟨v, h2, s2, c2, -, C, -, -, f2, f3, f4⟩ := H
  exact k s2 f3 (H0.up f2 f3 f4).2.1.1
theorem arrinjZ9 {c : ClassId} {n : Nat} {f g : Nat → Int32} (h : (some (.inr (c, n, .inl f)) : Option (Value ⊕ (ClassId × vp_A))) = some (.inr (c, n, .inl g))) : f = g := by
  have h1 := Sum.inr.inj (Option.some.inj h)
  have h2 := congrArg (fun q => q.2.2) h1
  exact Sum.inl.inj h2
def APx (G : KG) (w : va_W) (k : Nat) (a x y : Nat → Int32) : Prop := cget w k 0 = some (.inr (cyZ G, 6, .inl a)) ∧ cget w (k + 1) 0 = some (.inr (cyI G, 6, .inl x)) ∧ cget w (k + 2) 0 = some (.inr (cyI G, 6, .inl y))
/-- the six of each are so -/
def ApQ (G : KG) (w : va_W) (k : Nat) (a x y : Nat → Int32) : Prop := ∃ a' x' y' : Nat → Int32, APx G w k a' x' y' ∧ ∀ j : Nat, j < 6 → a' j = a j ∧ x' j = x j ∧ y' j = y j
theorem APx.app {G : KG} {w wc : va_W} {k : Nat} {a x y : Nat → Int32} (hk : k + 2 < w.length) (h : APx G w k a x y) : APx G (w ++ wc) k a x y := by
  obtain ⟨p, q, r⟩ := h
  exact ⟨by rw [cget_app (by omega)]; exact p, by rw [cget_app (by omega)]; exact q, by rw [cget_app hk]; exact r⟩
theorem ApQ.app {G : KG} {w wc : va_W} {k : Nat} {a x y : Nat → Int32} (hk : k + 2 < w.length) (h : ApQ G w k a x y) : ApQ G (w ++ wc) k a x y := by
  obtain ⟨p, q, r, h1, h2⟩ := h
  exact ⟨p, q, r, h1.app hk, h2⟩
theorem APx.keep {G : KG} {w w' : va_W} {k N : Nat} {a x y : Nat → Int32} {m : List (Nat × Nat)} (h : APx G w k a x y) (h1 : FX m N w w') (hk : k + 2 < N) (hm : ∀ z, z < 3 → mkq m (k + z) 0 = false) : APx G w' k a x y := by
  obtain ⟨p, q, r⟩ := h
  exact ⟨(h1 k 0 (by omega) (hm 0 (by decide))).trans p, (h1 _ 0 (by omega) (hm 1 (by decide))).trans q, (h1 _ 0 hk (hm 2 (by decide))).trans r⟩
theorem APx.inj {G : KG} {w : va_W} {k : Nat} {a x y a' x' y' : Nat → Int32} (h : APx G w k a x y) (h2 : APx G w k a' x' y') : a = a' ∧ x = x' ∧ y = y' := ⟨arrinjZ9 (h.1.symm.trans h2.1), arrinj (h.2.1.symm.trans h2.2.1), arrinj (h.2.2.symm.trans h2.2.2)⟩
/-- what the numbers keep to -/
def APb (a x y : Nat → Int32) (s : Int) (j : Nat) : Prop := ((0 ≤ (a j).toInt ∧ (a j).toInt ≤ 1) ∧ (s ≤ (j : Int) → a j = 0)) ∧ (-9999 ≤ (x j).toInt ∧ (x j).toInt ≤ 9999) ∧ -9999 ≤ (y j).toInt ∧ (y j).toInt ≤ 9999
theorem APb.mono {a x y : Nat → Int32} {s s' : Int} {j : Nat} (h : APb a x y s j) (l : s ≤ s') : APb a x y s' j := ⟨⟨h.1.1, fun q => h.1.2 (by omega)⟩, h.2⟩
theorem APb.cg {a x y a' x' y' : Nat → Int32} {s : Int} {j : Nat} (h : APb a x y s j) (e : a' j = a j ∧ x' j = x j ∧ y' j = y j) : APb a' x' y' s j := by
  unfold APb at h ⊢
  rw [e.1, e.2.1, e.2.2]
  exact h
def RelAp (G : KG) (wx wm : va_W) : Prop := ∃ (s : Int32) (a x y a' x' y' : Nat → Int32), fget wx 12 0 = some (.int s) ∧ APx G wx 15 a x y ∧ APx G wm 10 a' x' y' ∧ ∀ j : Nat, j < 6 → (((j : Int) < s.toInt → a j = a' j) ∧ x j = x' j ∧ y j = y' j) ∧ APb a x y s.toInt j
/-- what mill leaves of it, in the reference -/
def MilF (G : KG) (s : Int32) (d0 : Nat → Int32) (w1 : va_W) : Prop := ∃ s2 : Int32, fget w1 0 10 = some (.int s2) ∧ ∃ q : Nat → Int32, cget w1 10 0 = some (.inr (cyZ G, 6, .inl q)) ∧ ∀ j : Nat, j < 6 → ((j : Int) < s.toInt → q j = d0 j) ∧ (s.toInt ≤ (j : Int) → (j : Int) < s2.toInt → q j = 0)
/-- as they lie in the reference's row of what is kept -/
def RKa (G : KG) (s : Int) (kk b : Nat → Int32) (wx : va_W) (i : Nat) : Prop := ∃ (fl : Int32) (a x y : Nat → Int32), fget wx (46 + 19 * i) 0 = some (.int fl) ∧ APx G wx (52 + 19 * i) a x y ∧ b i = fl ∧ (0 ≤ fl.toInt ∧ fl.toInt ≤ 1) ∧ (fl.toInt ≠ 0 → ∀ j : Nat, j < 6 → (kk (154 * i + (26 + 3 * j)) = a j ∧ kk (154 * i + (27 + 3 * j)) = x j ∧ kk (154 * i + (28 + 3 * j)) = y j) ∧ APb a x y s j)
def RelKa (G : KG) (wx wm : va_W) : Prop := ∃ (s : Int32) (b kk : Nat → Int32), fget wx 12 0 = some (.int s) ∧ cget wm 45 0 = some (.inr (cyZ G, 3, .inl b)) ∧ cget wm 46 0 = some (.inr (cyI G, 462, .inl kk)) ∧ ∀ i : Nat, i < 3 → RKa G s.toInt kk b wx i
/-- what lies in the reference's row after keep -/
def KpA (G : KG) (i : Nat) (b kk : Nat → Int32) (s : Int) (a x y : Nat → Int32) (w1 : va_W) : Prop := (∃ q : Nat → Int32, cget w1 45 0 = some (.inr (cyZ G, 3, .inl q)) ∧ ∀ j : Nat, j < 3 → q j = if j = i then 1 else b j) ∧ ∃ q : Nat → Int32, cget w1 46 0 = some (.inr (cyI G, 462, .inl q)) ∧ (∀ j : Nat, j < 6 → q (154 * i + (26 + 3 * j)) = (if (j : Int) < s ∧ (a j).toInt ≠ 0 then 1 else 0) ∧ q (154 * i + (27 + 3 * j)) = x j ∧ q (154 * i + (28 + 3 * j)) = y j) ∧ ∀ j : Nat, j < 462 → (j < 154 * i ∨ 154 * i + 153 ≤ j) → q j = kk j
/-- what again brings back, in the reference -/
def GtA (G : KG) (i : Nat) (kk : Nat → Int32) (w1 : va_W) : Prop := ∃ a x y : Nat → Int32, APx G w1 10 a x y ∧ ∀ j : Nat, j < 6 → a j = (if (kk (154 * i + (26 + 3 * j))).toInt = 1 then 1 else 0) ∧ x j = kk (154 * i + (27 + 3 * j)) ∧ y j = kk (154 * i + (28 + 3 * j))
section GR9
variable {G : KG} {wx wm wx' wm' : va_W} {m m' : List (Nat × Nat)}
theorem RelAp.keep (h : RelAp G wx wm) (h1 : FX m 109 wx wx') (h2 : FX m' 47 wm wm') (hm : mkq m 12 0 = false ∧ (∀ z, z < 3 → mkq m (15 + z) 0 = false) ∧ ∀ z, z < 3 → mkq m' (10 + z) 0 = false) : RelAp G wx' wm' := by
  obtain ⟨s, a, x, y, a', x', y', e1, e2, e3, e4⟩ := h
  exact ⟨s, a, x, y, a', x', y', h1.get (by decide) hm.1 e1, e2.keep h1 (by decide) hm.2.1, e3.keep h2 (by decide) hm.2.2, e4⟩
theorem RelAp.mil (hM : RelM G wx' wm') (h : RelAp G wx wm) (h1 : FX m 109 wx wx') (h2 : FX m' 47 wm wm') (hm : (∀ z, z < 3 → mkq m (15 + z) 0 = false) ∧ mkq m' 11 0 = false ∧ mkq m' 12 0 = false) {s s' : Int32} {d0 : Nat → Int32} (es : fget wx 12 0 = some (.int s)) (es' : fget wx' 12 0 = some (.int s')) (l : s.toInt ≤ s'.toInt) (ed : cget wm 10 0 = some (.inr (cyZ G, 6, .inl d0))) (B : MilF G s d0 wm') : RelAp G wx' wm' := by
  obtain ⟨_, u2, s2, c2, _, _, _, _, _, _, _, ⟨x2, y2⟩, _⟩ := hM
  obtain ⟨s9, a, x, y, a', x', y', e1, e2, e3, e4⟩ := h
  obtain rfl := some_int (es.symm.trans e1)
  obtain rfl := some_int (es'.symm.trans x2)
  obtain rfl := arrinjZ9 (ed.symm.trans e3.1)
  obtain ⟨s3, t1, q, q1, q2⟩ := B
  obtain rfl := some_int (y2.symm.trans t1)
  refine ⟨s', a, x, y, q, x', y', es', e2.keep h1 (by decide) hm.1, ⟨q1, (h2 11 0 (by decide) hm.2.1).trans e3.2.1, (h2 12 0 (by decide) hm.2.2).trans e3.2.2⟩, fun j hj => ?_⟩
  obtain ⟨⟨f1, f2⟩, f3⟩ := e4 j hj
  refine ⟨⟨fun hs => ?_, f2⟩, f3.mono l⟩
  by_cases c : (j : Int) < s.toInt
  · rw [f1 c, (q2 j hj).1 c]
  · rw [f3.1.2 (by omega), (q2 j hj).2 (by omega) hs]
abbrev mKa (m : List (Nat × Nat)) (i : Nat) : Prop := mkq m (46 + 19 * i) 0 = false ∧ ∀ z, z < 3 → mkq m (52 + 19 * i + z) 0 = false
theorem RKa.keep {s : Int} {kk b : Nat → Int32} {i : Nat} (H : RKa G s kk b wx i) (h1 : FX m 109 wx wx') (hi : i < 3) (hm : mKa m i) : RKa G s kk b wx' i := by
  obtain ⟨fl, a, x, y, e1, e2, e3⟩ := H
  exact ⟨fl, a, x, y, h1.get (by omega) hm.1 e1, e2.keep h1 (by omega) hm.2, e3⟩
theorem RKa.mono {s s' : Int} {kk b : Nat → Int32} {i : Nat} (H : RKa G s kk b wx i) (l : s ≤ s') : RKa G s' kk b wx i := by
  obtain ⟨fl, a, x, y, e1, e2, e3, e4, e5⟩ := H
  exact ⟨fl, a, x, y, e1, e2, e3, e4, fun hf j hj => ⟨(e5 hf j hj).1, (e5 hf j hj).2.mono l⟩⟩
theorem RelKa.keep (h : RelKa G wx wm) (h1 : FX m 109 wx wx') (h2 : FX m' 47 wm wm') (hm : (mKa m 0 ∧ mKa m 1 ∧ mKa m 2) ∧ mkq m 12 0 = false ∧ mkq m' 45 0 = false ∧ mkq m' 46 0 = false) : RelKa G wx' wm' := by
  obtain ⟨s, b, kk, e1, e3, e4, e5⟩ := h
  refine ⟨s, b, kk, h1.get (by decide) hm.2.1 e1, (h2 45 0 (by decide) hm.2.2.1).trans e3, (h2 46 0 (by decide) hm.2.2.2).trans e4, fun i hi => (e5 i hi).keep h1 hi ?_⟩
  rcases (by omega : i = 0 ∨ i = 1 ∨ i = 2) with rfl | rfl | rfl
  · exact hm.1.1
  · exact hm.1.2.1
  · exact hm.1.2.2
theorem RelKa.mil (h : RelKa G wx wm) (h1 : FX m 109 wx wx') (h2 : FX m' 47 wm wm') (hm : (mKa m 0 ∧ mKa m 1 ∧ mKa m 2) ∧ mkq m' 45 0 = false ∧ mkq m' 46 0 = false) {s s' : Int32} (es : fget wx 12 0 = some (.int s)) (es' : fget wx' 12 0 = some (.int s')) (l : s.toInt ≤ s'.toInt) : RelKa G wx' wm' := by
  obtain ⟨s9, b, kk, e1, e3, e4, e5⟩ := h
  obtain rfl := some_int (es.symm.trans e1)
  refine ⟨s', b, kk, es', (h2 45 0 (by decide) hm.2.1).trans e3, (h2 46 0 (by decide) hm.2.2).trans e4, fun i hi => ((e5 i hi).keep h1 hi ?_).mono l⟩
  rcases (by omega : i = 0 ∨ i = 1 ∨ i = 2) with rfl | rfl | rfl
  · exact hm.1.1
  · exact hm.1.2.1
  · exact hm.1.2.2
/-- at: what it leaves -/
theorem RelAp.at_ (h : RelAp G wx wm) (h1 : FX m 109 wx wx') (hm : mkq m 12 0 = false) {s sq uq vq : Int32} {a x y a' x' y' : Nat → Int32} (es : fget wx 12 0 = some (.int s)) (eA : APx G wx 15 a x y) (eH : APx G wm 10 a' x' y')
    (A : ApQ G wx' 15 (if okA s.toInt sq uq vq then upd a sq.toNatClampNeg 1 else a) (if okA s.toInt sq uq vq then upd x sq.toNatClampNeg uq else x) (if okA s.toInt sq uq vq then upd y sq.toNatClampNeg vq else y))
    (B : ApQ G wm' 10 (if okA s.toInt sq uq vq then upd a' sq.toNatClampNeg 1 else a') (if okA s.toInt sq uq vq then upd x' sq.toNatClampNeg uq else x') (if okA s.toInt sq uq vq then upd y' sq.toNatClampNeg vq else y')) : RelAp G wx' wm' := by
  obtain ⟨s9, a9, x9, y9, a8, x8, y8, e1, e2, e3, e4⟩ := h
  obtain rfl := some_int (es.symm.trans e1)
  obtain ⟨rfl, rfl, rfl⟩ := eA.inj e2
  obtain ⟨rfl, rfl, rfl⟩ := eH.inj e3
  obtain ⟨pa, px, py, p1, p2⟩ := A
  obtain ⟨qa, qx, qy, q1, q2⟩ := B
  refine ⟨s, pa, px, py, qa, qx, qy, h1.get (by decide) hm e1, p1, q1, fun j hj => ?_⟩
  have z1 := p2 j hj
  have z2 := q2 j hj
  have z3 := e4 j hj
  by_cases ok : okA s.toInt sq uq vq
  · rw [if_pos ok, if_pos ok, if_pos ok] at z1 z2
    by_cases c : j = sq.toNatClampNeg
    · rw [c, upd_at, upd_at, upd_at] at z1 z2
      rw [c]
      refine ⟨⟨fun _ => z1.1.trans z2.1.symm, z1.2.1.trans z2.2.1.symm, z1.2.2.trans z2.2.2.symm⟩, ?_⟩
      unfold APb
      rw [z1.1, z1.2.1, z1.2.2]
      exact ⟨⟨by decide, fun q => absurd q (show ¬ s.toInt ≤ ((sq.toInt.toNat : Nat) : Int) by have z := ok.1; omega)⟩, ok.2.1, ok.2.2⟩
    · rw [upd_off c, upd_off c, upd_off c] at z1 z2
      exact ⟨⟨fun hs => z1.1.trans ((z3.1.1 hs).trans z2.1.symm), z1.2.1.trans (z3.1.2.1.trans z2.2.1.symm), z1.2.2.trans (z3.1.2.2.trans z2.2.2.symm)⟩, z3.2.cg z1⟩
  · rw [if_neg ok, if_neg ok, if_neg ok] at z1 z2
    exact ⟨⟨fun hs => z1.1.trans ((z3.1.1 hs).trans z2.1.symm), z1.2.1.trans (z3.1.2.1.trans z2.2.1.symm), z1.2.2.trans (z3.1.2.2.trans z2.2.2.symm)⟩, z3.2.cg z1⟩
/-- a number is kept -/
theorem RelKa.kpA (hK : RelKa G wx wm) (hT : RelAp G wx wm) (h1 : FX m 109 wx wx') {i : Nat} (hi : i < 3) (hm : (∀ j : Nat, j < 3 → j ≠ i → mKa m j) ∧ mkq m 12 0 = false) {b kk : Nat → Int32} {s : Int32} {a x y a' x' y' : Nat → Int32} (eb : cget wm 45 0 = some (.inr (cyZ G, 3, .inl b))) (ek : cget wm 46 0 = some (.inr (cyI G, 462, .inl kk))) (es : fget wx 12 0 = some (.int s)) (eA : APx G wx 15 a x y) (eH : APx G wm 10 a' x' y')
    (A : fget wx' (46 + 19 * i) 0 = some (.int 1) ∧ ApQ G wx' (52 + 19 * i) a x y) (B : KpA G i b kk s.toInt a' x' y' wm') : RelKa G wx' wm' := by
  obtain ⟨s8, b9, k9, q1, q3, q4, q5⟩ := hK
  obtain rfl := arrinjZ9 (eb.symm.trans q3)
  obtain rfl := arrinj (ek.symm.trans q4)
  obtain rfl := some_int (es.symm.trans q1)
  obtain ⟨s9, a9, x9, y9, a8, x8, y8, e1, e2, e3, e4⟩ := hT
  obtain rfl := some_int (es.symm.trans e1)
  obtain ⟨rfl, rfl, rfl⟩ := eA.inj e2
  obtain ⟨rfl, rfl, rfl⟩ := eH.inj e3
  obtain ⟨⟨b2, c1, c2⟩, k2, c3, c5, c6⟩ := B
  refine ⟨s, b2, k2, h1.get (by decide) hm.2 q1, c1, c3, fun j hj => ?_⟩
  by_cases ej : j = i
  · subst ej
    obtain ⟨a1, pa, px, py, p1, p2⟩ := A
    refine ⟨1, pa, px, py, a1, p1, by rw [c2 j hj, if_pos rfl], by decide, fun _ z hz => ?_⟩
    have y1 := p2 z hz
    have y2 := e4 z hz
    obtain ⟨d0, d1, d2⟩ := c5 z hz
    refine ⟨⟨?_, d1.trans (y2.1.2.1.symm.trans y1.2.1.symm), d2.trans (y2.1.2.2.symm.trans y1.2.2.symm)⟩, y2.2.cg y1⟩
    rw [d0, y1.1]
    obtain ⟨⟨w1, w2⟩, -⟩ := y2.2
    have o0 : (0 : Int32).toInt = 0 := by decide
    have o1 : (1 : Int32).toInt = 1 := by decide
    by_cases l : (z : Int) < s.toInt
    · rw [← y2.1.1 l]
      rcases (by omega : (a z).toInt = 0 ∨ (a z).toInt = 1) with c | c
      · rw [if_neg (fun q => q.2 c)]
        exact Int32.toInt_inj.mp (o0.trans c.symm)
      · rw [if_pos ⟨l, by omega⟩]
        exact Int32.toInt_inj.mp (o1.trans c.symm)
    · rw [if_neg (fun q => l q.1)]
      exact (w2 (by omega)).symm
  · obtain ⟨fl, a7, x7, y7, y1, y2, y3, y4, y5⟩ := (q5 j hj).keep h1 hj (hm.1 j hj ej)
    refine ⟨fl, a7, x7, y7, y1, y2, ?_, y4, fun hf z hz => ⟨?_, (y5 hf z hz).2⟩⟩
    · rw [c2 j hj, if_neg ej]
      exact y3
    · obtain ⟨⟨d0, d1, d2⟩, -⟩ := y5 hf z hz
      have kz : ∀ n : Nat, n < 153 → k2 (154 * j + n) = kk (154 * j + n) := fun n hn => c6 _ (by omega) (by omega)
      exact ⟨(kz _ (by omega)).trans d0, (kz _ (by omega)).trans d1, (kz _ (by omega)).trans d2⟩
/-- what was kept comes back -/
theorem RKa.back {s : Int32} {kk b : Nat → Int32} {i : Nat} (K : RKa G s.toInt kk b wx i) (h1 : FX m 109 wx wx') (hm : mkq m 12 0 = false) {fl : Int32} {a x y : Nat → Int32} (efl : fget wx (46 + 19 * i) 0 = some (.int fl)) (hf : fl.toInt ≠ 0) (eA : APx G wx (52 + 19 * i) a x y) (es : fget wx 12 0 = some (.int s)) (A : ApQ G wx' 15 a x y) (B : GtA G i kk wm') : RelAp G wx' wm' := by
  obtain ⟨f9, a9, x9, y9, k1, k2, -, -, k5⟩ := K
  obtain rfl := some_int (efl.symm.trans k1)
  obtain ⟨rfl, rfl, rfl⟩ := eA.inj k2
  obtain ⟨pa, px, py, p1, p2⟩ := A
  obtain ⟨qa, qx, qy, q1, q2⟩ := B
  refine ⟨s, pa, px, py, qa, qx, qy, h1.get (by decide) hm es, p1, q1, fun j hj => ?_⟩
  have z1 := p2 j hj
  obtain ⟨d0, d1, d2⟩ := q2 j hj
  obtain ⟨⟨g0, g1, g2⟩, g3⟩ := k5 hf j hj
  have w := g3.1.1
  have o0 : (0 : Int32).toInt = 0 := by decide
  have o1 : (1 : Int32).toInt = 1 := by decide
  have ew : (if (a j).toInt = 1 then (1 : Int32) else 0) = a j := by
    rcases (by omega : (a j).toInt = 0 ∨ (a j).toInt = 1) with c | c
    · rw [if_neg (by omega)]
      exact Int32.toInt_inj.mp (o0.trans c.symm)
    · rw [if_pos c]
      exact Int32.toInt_inj.mp (o1.trans c.symm)
  rw [g0, ew] at d0
  exact ⟨⟨fun _ => z1.1.trans d0.symm, z1.2.1.trans (g1.symm.trans d1.symm), z1.2.2.trans (g2.symm.trans d2.symm)⟩, g3.cg z1⟩
/-- refused on both sides -/
theorem RelAp.same (hT : RelAp G wx wm) (h1 : FX m 109 wx wx') (hm : mkq m 12 0 = false ∧ ∀ z, z < 3 → mkq m (15 + z) 0 = false) {a' x' y' : Nat → Int32} (eH : APx G wm 10 a' x' y') (B : ApQ G wm' 10 a' x' y') : RelAp G wx' wm' := by
  obtain ⟨s, a, x, y, a8, x8, y8, e1, e2, e3, e4⟩ := hT
  obtain ⟨rfl, rfl, rfl⟩ := eH.inj e3
  obtain ⟨qa, qx, qy, q1, q2⟩ := B
  refine ⟨s, a, x, y, qa, qx, qy, h1.get (by decide) hm.1 e1, e2.keep h1 (by decide) hm.2, q1, fun j hj => ?_⟩
  have z := q2 j hj
  have z3 := e4 j hj
  exact ⟨⟨fun hs => (z3.1.1 hs).trans z.1.symm, z3.1.2.1.trans z.2.1.symm, z3.1.2.2.trans z.2.2.symm⟩, z3.2⟩
end GR9
def RelW (G : KG) (wx wm : va_W) : Prop := RelQ G wx wm ∧ RelAp G wx wm ∧ RelKa G wx wm
section RLW
variable {G : KG} {wx wm : va_W}
theorem RelW.of (a : RelM G wx wm) (b : RelAr G wx wm) (c : RelD G wx wm) (d : RelC G wx wm) (e : RelXY G wx wm) (f : RelB G wx wm) (g : RelH G wx wm) (h : RelTh G wx wm) (i : RelKh G wx wm) (p : RelAp G wx wm) (u : RelKa G wx wm) : RelW G wx wm := ⟨RelQ.of a b c d e f g h i, p, u⟩
theorem RelW.m (q : RelW G wx wm) : RelM G wx wm := q.1.m
theorem RelW.a (q : RelW G wx wm) : RelAr G wx wm := q.1.a
theorem RelW.d (q : RelW G wx wm) : RelD G wx wm := q.1.d
theorem RelW.c (q : RelW G wx wm) : RelC G wx wm := q.1.c
theorem RelW.x (q : RelW G wx wm) : RelXY G wx wm := q.1.x
theorem RelW.b (q : RelW G wx wm) : RelB G wx wm := q.1.b
theorem RelW.h (q : RelW G wx wm) : RelH G wx wm := q.1.h
theorem RelW.t (q : RelW G wx wm) : RelTh G wx wm := q.1.t
theorem RelW.k (q : RelW G wx wm) : RelKh G wx wm := q.1.k
theorem RelW.q (q : RelW G wx wm) : RelAp G wx wm := q.2.1
theorem RelW.z (q : RelW G wx wm) : RelKa G wx wm := q.2.2
end RLW
