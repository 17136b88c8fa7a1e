/-! groups of the relation: x, y, HAS, THOUGHT, what is kept of them, bounds -/
def BE (G : KG) (w : va_W) (k n : Nat) (lo hi H : Int) : Prop := ∃ q : Nat → Int32, cget w k 0 = some (.inr (cyI G, n, .inl q)) ∧ ∀ j : Nat, j < n → (j : Int) < H → lo ≤ (q j).toInt ∧ (q j).toInt ≤ hi
theorem BE.keep {G : KG} {wx wx' : va_W} {m : List (Nat × Nat)} {k n : Nat} {lo hi H : Int} (h : BE G wx k n lo hi H) (h1 : FX m 109 wx wx') (hk : k < 109) (hm : mkq m k 0 = false) : BE G wx' k n lo hi H := by
  obtain ⟨q, a, b⟩ := h
  exact ⟨q, (h1 k 0 hk hm).trans a, b⟩
theorem AFc.bnd {G : KG} {w1 : va_W} {k n : Nat} {val : Int32 → Int32} {g0 a : Nat → Int32} {c H lo hi : Int} (A : AFc G w1 k n val g0 c H a) (B0 : ∀ j : Nat, j < n → (j : Int) < c → lo ≤ (g0 j).toInt ∧ (g0 j).toInt ≤ hi) (B1 : ∀ j : Nat, c ≤ (j : Int) → (j : Int) < H → lo ≤ (val (a j)).toInt ∧ (val (a j)).toInt ≤ hi) : BE G w1 k n lo hi H := by
  obtain ⟨q, q1, q2⟩ := A
  refine ⟨q, q1, fun j hj hH => ?_⟩
  by_cases hc : (j : Int) < c
  · rw [(q2 j hj).1 hc]
    exact B0 j hj hc
  · rw [(q2 j hj).2 (by omega) hH]
    exact B1 j (by omega) hH
/-- what mill leaves of x, y -/
def MilX (G : KG) (kh jh kx ky : Nat) (f : Nat → Int32) (L h s c : Int32) (x0 y0 : Nat → Int32) (w1 : va_W) : Prop :=
  ∃ h2 : Int32, fget w1 kh jh = some (.int h2) ∧ AFc G w1 kx 16 (fun p => (hC f L p).2.2) x0 h.toInt h2.toInt (run0 f L h.toInt s.toInt c.toInt).2.2.2.2.2.2.1 ∧ AFc G w1 ky 16 (fun p => (hE f L p).2.2) y0 h.toInt h2.toInt (run0 f L h.toInt s.toInt c.toInt).2.2.2.2.2.2.1
theorem MilX.app {G : KG} {kh jh kx ky : Nat} {f : Nat → Int32} {L h s c : Int32} {x0 y0 : Nat → Int32} {w1 wc : va_W} (hk : kh < w1.length ∧ kx < w1.length ∧ ky < w1.length) (A : MilX G kh jh kx ky f L h s c x0 y0 w1) : MilX G kh jh kx ky f L h s c x0 y0 (w1 ++ wc) := by
  obtain ⟨h2, e1, a1, a2⟩ := A
  exact ⟨h2, by rw [fget_app hk.1]; exact e1, a1.app hk.2.1, a2.app hk.2.2⟩
def RelXY (G : KG) (wx wm : va_W) : Prop := ∃ h : Int32, fget wx 5 0 = some (.int h) ∧ AE G wx wm 7 3 16 h.toInt ∧ AE G wx wm 8 4 16 h.toInt
def RelB (G : KG) (wx _wm : va_W) : Prop := ∃ h s c : Int32, (fget wx 5 0 = some (.int h) ∧ fget wx 12 0 = some (.int s) ∧ fget wx 18 0 = some (.int c)) ∧ BE G wx 7 16 (-99) 99 h.toInt ∧ BE G wx 8 16 (-99) 99 h.toInt ∧ BE G wx 13 6 1 9 s.toInt ∧ BE G wx 14 6 0 9 s.toInt ∧ BE G wx 19 8 0 99 c.toInt
/-- HAS is alike, nothing beyond the holes; no more than ROOM -/
def RelH (G : KG) (wx wm : va_W) : Prop := ∃ (h : Int32) (q g r : Nat → Int32), fget wx 5 0 = some (.int h) ∧ cget wx 10 0 = some (.inr (cyI G, 16, .inl q)) ∧ cget wm 6 0 = some (.inr (cyI G, 16, .inl g)) ∧ cget wx 9 0 = some (.inr (cyI G, 16, .inl r)) ∧ (∀ j : Nat, j < 16 → (j : Int) < h.toInt → q j = g j) ∧ (∀ j : Nat, j < 16 → h.toInt ≤ (j : Int) → q j = 0) ∧ ∀ j : Nat, j < 16 → (q j).toInt ≤ (r j).toInt
abbrev pr4 (t X Y : Nat → Int32) : Prop := ∀ j : Nat, j < 4 → t (2 * j) = X j ∧ t (2 * j + 1) = Y j
abbrev b8 (t : Nat → Int32) : Prop := ∀ j : Nat, j < 8 → -9999 ≤ (t j).toInt ∧ (t j).toInt ≤ 9999
def RelTh (G : KG) (wx wm : va_W) : Prop := ∃ t X Y : Nat → Int32, cget wx 105 0 = some (.inr (cyI G, 8, .inl t)) ∧ cget wm 18 0 = some (.inr (cyI G, 4, .inl X)) ∧ cget wm 19 0 = some (.inr (cyI G, 4, .inl Y)) ∧ pr4 t X Y ∧ b8 t
/-- what is kept under a number -/
def RKh (G : KG) (h : Int) (r kk b : Nat → Int32) (wx : va_W) (i : Nat) : Prop := ∃ (fl : Int32) (q t : Nat → Int32), fget wx (46 + 19 * i) 0 = some (.int fl) ∧ cget wx (47 + 19 * i) 0 = some (.inr (cyI G, 16, .inl q)) ∧ cget wx (48 + 19 * i) 0 = some (.inr (cyI G, 8, .inl t)) ∧ b i = fl ∧ (0 ≤ fl.toInt ∧ fl.toInt ≤ 1) ∧ (fl.toInt ≠ 0 → (∀ j : Nat, j < 16 → q j = kk (154 * i + 2 + j)) ∧ ∀ j : Nat, j < 4 → t (2 * j) = kk (154 * i + 18 + 2 * j) ∧ t (2 * j + 1) = kk (154 * i + 19 + 2 * j)) ∧ (∀ j : Nat, j < 16 → h ≤ (j : Int) → q j = 0) ∧ (∀ j : Nat, j < 16 → (q j).toInt ≤ (r j).toInt) ∧ b8 t
def RelKh (G : KG) (wx wm : va_W) : Prop := ∃ (h : Int32) (r b kk : Nat → Int32), fget wx 5 0 = some (.int h) ∧ cget wx 9 0 = some (.inr (cyI G, 16, .inl r)) ∧ cget wm 45 0 = some (.inr (cyZ G, 3, .inl b)) ∧ cget wm 46 0 = some (.inr (cyI G, 462, .inl kk)) ∧ ∀ i : Nat, i < 3 → RKh G h.toInt r kk b wx i
section GR3
variable {G : KG} {wx wm wx' wm' : va_W} {m m' : List (Nat × Nat)}
theorem RelXY.keep (h : RelXY G wx wm) (h1 : FX m 109 wx wx') (h2 : FX m' 47 wm wm') (hm : mkq m 5 0 = false ∧ (mkq m 7 0 = false ∧ mkq m' 3 0 = false) ∧ (mkq m 8 0 = false ∧ mkq m' 4 0 = false)) : RelXY G wx' wm' := by
  obtain ⟨a, e1, a1, a2⟩ := h
  exact ⟨a, h1.get (by decide) hm.1 e1, a1.keep h1 h2 (by decide) hm.2.1, a2.keep h1 h2 (by decide) hm.2.2⟩
theorem RelB.keep (h : RelB G wx wm) (h1 : FX m 109 wx wx') (_h2 : FX m' 47 wm wm') (hm : (mkq m 5 0 = false ∧ mkq m 12 0 = false ∧ mkq m 18 0 = false) ∧ mkq m 7 0 = false ∧ mkq m 8 0 = false ∧ mkq m 13 0 = false ∧ mkq m 14 0 = false ∧ mkq m 19 0 = false) : RelB G wx' wm' := by
  obtain ⟨a, s, c, ⟨e1, e2, e3⟩, a1, a2, a3, a4, a5⟩ := h
  obtain ⟨⟨m1, m2, m3⟩, m4, m5, m6, m7, m8⟩ := hm
  exact ⟨a, s, c, ⟨h1.get (by decide) m1 e1, h1.get (by decide) m2 e2, h1.get (by decide) m3 e3⟩, a1.keep h1 (by decide) m4, a2.keep h1 (by decide) m5, a3.keep h1 (by decide) m6, a4.keep h1 (by decide) m7, a5.keep h1 (by decide) m8⟩
theorem RelH.keep (h : RelH G wx wm) (h1 : FX m 109 wx wx') (h2 : FX m' 47 wm wm') (hm : mkq m 5 0 = false ∧ mkq m 10 0 = false ∧ mkq m' 6 0 = false ∧ mkq m 9 0 = false) : RelH G wx' wm' := by
  obtain ⟨a, q, g, r, e1, e2, e3, e4, e5, e6, e7⟩ := h
  exact ⟨a, q, g, r, h1.get (by decide) hm.1 e1, (h1 10 0 (by decide) hm.2.1).trans e2, (h2 6 0 (by decide) hm.2.2.1).trans e3, (h1 9 0 (by decide) hm.2.2.2).trans e4, e5, e6, e7⟩
theorem RelTh.keep (h : RelTh G wx wm) (h1 : FX m 109 wx wx') (h2 : FX m' 47 wm wm') (hm : mkq m 105 0 = false ∧ mkq m' 18 0 = false ∧ mkq m' 19 0 = false) : RelTh G wx' wm' := by
  obtain ⟨t, X, Y, e1, e2, e3, e4⟩ := h
  exact ⟨t, X, Y, (h1 105 0 (by decide) hm.1).trans e1, (h2 18 0 (by decide) hm.2.1).trans e2, (h2 19 0 (by decide) hm.2.2).trans e3, e4⟩
abbrev mKh (m : List (Nat × Nat)) (i : Nat) : Prop := mkq m (46 + 19 * i) 0 = false ∧ mkq m (47 + 19 * i) 0 = false ∧ mkq m (48 + 19 * i) 0 = false
theorem RKh.keep {h : Int} {r kk b : Nat → Int32} {i : Nat} (H : RKh G h r kk b wx i) (h1 : FX m 109 wx wx') (hi : i < 3) (hm : mKh m i) : RKh G h r kk b wx' i := by
  obtain ⟨fl, q, t, e1, e2, e3, e4⟩ := H
  exact ⟨fl, q, t, h1.get (by omega) hm.1 e1, (h1 _ 0 (by omega) hm.2.1).trans e2, (h1 _ 0 (by omega) hm.2.2).trans e3, e4⟩
theorem RelKh.keep (h : RelKh G wx wm) (h1 : FX m 109 wx wx') (h2 : FX m' 47 wm wm') (hm : (mKh m 0 ∧ mKh m 1 ∧ mKh m 2) ∧ mkq m 5 0 = false ∧ mkq m 9 0 = false ∧ mkq m' 45 0 = false ∧ mkq m' 46 0 = false) : RelKh G wx' wm' := by
  obtain ⟨a, r, b, kk, e1, e2, e3, e4, e5⟩ := h
  refine ⟨a, r, b, kk, h1.get (by decide) hm.2.1 e1, (h1 9 0 (by decide) hm.2.2.1).trans e2, (h2 45 0 (by decide) hm.2.2.2.1).trans e3, (h2 46 0 (by decide) hm.2.2.2.2).trans e4, fun i hi => (e5 i hi).keep h1 hi ?_⟩
  rcases (by omega : i = 0 ∨ i = 1 ∨ i = 2) with rfl | rfl | rfl
  · exact hm.1.1
  · exact hm.1.2.1
  · exact hm.1.2.2
-- the mill
theorem RelXY.mil (hM : RelM G wx' wm') {f g x0 y0 x9 y9 : Nat → Int32} {L h s c : Int32} (hL : L.toInt ≤ 60) (e : TE80 f g) (A : MilX G 5 0 7 8 f L h s c x0 y0 wx') (B : MilX G 0 3 3 4 g L h s c x9 y9 wm') (E : (∀ k : Nat, k < 16 → (k : Int) < h.toInt → x0 k = x9 k) ∧ ∀ k : Nat, k < 16 → (k : Int) < h.toInt → y0 k = y9 k) : RelXY G wx' wm' := by
  obtain ⟨_, a2, s2, c2, _, _, _, _, _, _, ⟨x1, y1⟩, _⟩ := hM
  obtain ⟨u1, z1, b1, b2⟩ := A
  obtain ⟨v1, t1, d1, d2⟩ := B
  obtain rfl := some_int (x1.symm.trans z1)
  obtain rfl := some_int (y1.symm.trans t1)
  rw [cg_run0 e hL, cg_hC e hL] at b1
  rw [cg_run0 e hL, cg_hE e hL] at b2
  exact ⟨_, z1, b1.same d1 E.1, b2.same d2 E.2⟩
theorem MilE.up {kn jn kh jh ks js kc jc : Nat} {n : Int32} {f : Nat → Int32} {h s c : Int32} {r : Option Value} {w1 : va_W} (H : MilE kn jn kh jh ks js kc jc n f h s c r w1) {h3 s3 c3 : Int32} (e1 : fget w1 kh jh = some (.int h3)) (e2 : fget w1 ks js = some (.int s3)) (e3 : fget w1 kc jc = some (.int c3)) : (h.toInt ≤ h3.toInt ∧ h3.toInt ≤ (run0 f (if 60 < n then 60 else n) h.toInt s.toInt c.toInt).2.2.2.1) ∧ (s.toInt ≤ s3.toInt ∧ s3.toInt ≤ (run0 f (if 60 < n then 60 else n) h.toInt s.toInt c.toInt).2.2.2.2.1) ∧ (c.toInt ≤ c3.toInt ∧ c3.toInt ≤ (run0 f (if 60 < n then 60 else n) h.toInt s.toInt c.toInt).2.2.2.2.2.1) := by
  obtain ⟨v, h2, s2, c2, -, C, -, -, f2, f3, f4⟩ := H
  obtain rfl := some_int (e1.symm.trans f2)
  obtain rfl := some_int (e2.symm.trans f3)
  obtain rfl := some_int (e3.symm.trans f4)
  exact C.up
theorem RelB.mil (hB : RelB G wx wm) {n h s c : Int32} {f x0 y0 p0 r0 f0 o0 w0 : Nat → Int32} {r : Option Value} (he : fget wx 5 0 = some (.int h) ∧ fget wx 12 0 = some (.int s) ∧ fget wx 18 0 = some (.int c)) (h0 : 0 ≤ h.toInt ∧ 0 ≤ s.toInt ∧ 0 ≤ c.toInt) (E : MilE 3 1 5 0 12 0 18 0 n f h s c r wx') (A : MilA G 5 0 12 0 18 0 6 9 13 14 19 f (if 60 < n then 60 else n) h s c p0 r0 f0 o0 w0 wx') (X : MilX G 5 0 7 8 f (if 60 < n then 60 else n) h s c x0 y0 wx') (ex : cget wx 7 0 = some (.inr (cyI G, 16, .inl x0)) ∧ cget wx 8 0 = some (.inr (cyI G, 16, .inl y0)) ∧ cget wx 13 0 = some (.inr (cyI G, 6, .inl f0)) ∧ cget wx 14 0 = some (.inr (cyI G, 6, .inl o0)) ∧ cget wx 19 0 = some (.inr (cyI G, 8, .inl w0))) : RelB G wx' wm' := by
  obtain ⟨h9, s9, c9, ⟨q1, q2, q3⟩, ⟨x, k1, k2⟩, ⟨y, k3, k4⟩, ⟨ff, k5, k6⟩, ⟨fo, k7, k8⟩, ⟨fw, k9, k10⟩⟩ := hB
  obtain rfl := some_int (he.1.symm.trans q1)
  obtain rfl := some_int (he.2.1.symm.trans q2)
  obtain rfl := some_int (he.2.2.symm.trans q3)
  obtain rfl := arrinj (ex.1.symm.trans k1)
  obtain rfl := arrinj (ex.2.1.symm.trans k3)
  obtain rfl := arrinj (ex.2.2.1.symm.trans k5)
  obtain rfl := arrinj (ex.2.2.2.1.symm.trans k7)
  obtain rfl := arrinj (ex.2.2.2.2.symm.trans k9)
  obtain ⟨u1, u2, u3, ⟨z1, z2, z3⟩, -, -, b3, b4, b5⟩ := A
  obtain ⟨v1, t1, d1, d2⟩ := X
  obtain rfl := some_int (z1.symm.trans t1)
  obtain ⟨⟨g1, l1⟩, ⟨g2, l2⟩, ⟨g3, l3⟩⟩ := E.up z1 z2 z3
  have e0 : (0 : Int32).toInt = 0 := by decide
  have e1 : (1 : Int32).toInt = 1 := by decide
  have e9 : (9 : Int32).toInt = 9 := by decide
  have e99 : (99 : Int32).toInt = 99 := by decide
  refine ⟨_, _, _, ⟨z1, z2, z3⟩, d1.bnd k2 (fun j a b => ?_), d2.bnd k4 (fun j a b => ?_), b3.bnd k6 (fun j a b => ?_), b4.bnd k8 (fun j a b => ?_), b5.bnd k10 (fun j a b => ?_)⟩
  · exact sg_b (okL_h (run0_h (f := f) (L := if 60 < n then 60 else n) (h := h.toInt) (s := s.toInt) (c := c.toInt) h0.1 j a (by omega))).2.1
  · exact sg_b (okL_h (run0_h (f := f) (L := if 60 < n then 60 else n) (h := h.toInt) (s := s.toInt) (c := c.toInt) h0.1 j a (by omega))).2.2.1
  · have z := num_b (okL_s (run0_s (f := f) (L := if 60 < n then 60 else n) (h := h.toInt) (s := s.toInt) (c := c.toInt) h0.2.1 j a (by omega))).1
    rw [e1, e9] at z
    exact z
  · have z := num_b (okL_s (run0_s (f := f) (L := if 60 < n then 60 else n) (h := h.toInt) (s := s.toInt) (c := c.toInt) h0.2.1 j a (by omega))).2
    rw [e0, e9] at z
    exact z
  · have z := num_b (okL_c (run0_c (f := f) (L := if 60 < n then 60 else n) (h := h.toInt) (s := s.toInt) (c := c.toInt) h0.2.2 j a (by omega)))
    rw [e0, e99] at z
    exact z
/-- a new ROOM is not below 0; what was told stays -/
theorem roomNew {r0 r1 : Nat → Int32} {h : Int} {q : Nat → Int32} (hr : ∀ j : Nat, j < 16 → (j : Int) < h → r1 j = r0 j) (h0 : ∀ j : Nat, j < 16 → 0 ≤ (r1 j).toInt) (hz : ∀ j : Nat, j < 16 → h ≤ (j : Int) → q j = 0) (hq : ∀ j : Nat, j < 16 → (q j).toInt ≤ (r0 j).toInt) : ∀ j : Nat, j < 16 → (q j).toInt ≤ (r1 j).toInt := by
  intro j hj
  by_cases c : (j : Int) < h
  · rw [hr j hj c]
    exact hq j hj
  · rw [hz j hj (by omega), show (0 : Int32).toInt = 0 by decide]
    exact h0 j hj
theorem RelH.mil (hM : RelM G wx' wm') (hH : RelH G wx wm) (h1 : FX m 109 wx wx') (hm : mkq m 10 0 = false) {g d9 r0 : Nat → Int32} {L h s c : Int32} (he : fget wx 5 0 = some (.int h)) (hd : cget wm 6 0 = some (.inr (cyI G, 16, .inl d9))) (er : cget wx 9 0 = some (.inr (cyI G, 16, .inl r0))) (B : MilD G 0 3 6 g L h s c d9 wm') {val : Int32 → Int32} {H : Int} {a : Nat → Int32} (R : AFc G wx' 9 16 val r0 h.toInt H a) (hr0 : ∀ q : Nat → Int32, cget wx' 9 0 = some (.inr (cyI G, 16, .inl q)) → ∀ j : Nat, j < 16 → 0 ≤ (q j).toInt) (hge : ∀ h2 : Int32, fget wx' 5 0 = some (.int h2) → h.toInt ≤ h2.toInt) : RelH G wx' wm' := by
  obtain ⟨_, a2, s2, c2, _, _, _, _, _, _, ⟨x1, y1⟩, _⟩ := hM
  obtain ⟨v1, t1, q, q1, q2⟩ := B
  obtain rfl := some_int (y1.symm.trans t1)
  obtain ⟨h9, hq, hg, hr, e0, e1, e2, e3, e4, e5, e6⟩ := hH
  obtain rfl := some_int (he.symm.trans e0)
  obtain rfl := arrinj (hd.symm.trans e2)
  obtain rfl := arrinj (er.symm.trans e3)
  have hg := hge _ x1
  obtain ⟨r1, p1, p2⟩ := R
  refine ⟨_, hq, q, r1, x1, (h1 10 0 (by decide) hm).trans e1, q1, p1, fun k hk hH => ?_, fun k hk hH => e5 k hk (by omega), roomNew (fun j hj hc => (p2 j hj).1 hc) (hr0 r1 p1) e5 e6⟩
  by_cases hc : (k : Int) < h.toInt
  · rw [e4 k hk hc, (q2 k hk).1 hc]
  · rw [e5 k hk (by omega), (q2 k hk).2 (by omega) hH]
theorem RelKh.mil (hK : RelKh G wx wm) (h1 : FX m 109 wx wx') (h2 : FX m' 47 wm wm') (hm : (mKh m 0 ∧ mKh m 1 ∧ mKh m 2) ∧ mkq m' 45 0 = false ∧ mkq m' 46 0 = false) {r0 : Nat → Int32} {h h3 : Int32} (he : fget wx 5 0 = some (.int h)) (he3 : fget wx' 5 0 = some (.int h3)) (er : cget wx 9 0 = some (.inr (cyI G, 16, .inl r0))) {val : Int32 → Int32} {H : Int} {a : Nat → Int32} (R : AFc G wx' 9 16 val r0 h.toInt H a) (hr0 : ∀ q : Nat → Int32, cget wx' 9 0 = some (.inr (cyI G, 16, .inl q)) → ∀ j : Nat, j < 16 → 0 ≤ (q j).toInt) (hge : h.toInt ≤ h3.toInt) : RelKh G wx' wm' := by
  obtain ⟨h9, r9, b, kk, e1, e2, e3, e4, e5⟩ := hK
  obtain rfl := some_int (he.symm.trans e1)
  obtain rfl := arrinj (er.symm.trans e2)
  obtain ⟨r1, p1, p2⟩ := R
  refine ⟨h3, r1, b, kk, he3, p1, (h2 45 0 (by decide) hm.2.1).trans e3, (h2 46 0 (by decide) hm.2.2).trans e4, fun i hi => ?_⟩
  have k := (e5 i hi).keep h1 hi (by
    rcases (by omega : i = 0 ∨ i = 1 ∨ i = 2) with rfl | rfl | rfl
    · exact hm.1.1
    · exact hm.1.2.1
    · exact hm.1.2.2)
  obtain ⟨fl, q, t, k1, k2, k3, k4, k5, k6, k7, k8, k9⟩ := k
  exact ⟨fl, q, t, k1, k2, k3, k4, k5, k6, fun j hj hH => k7 j hj (by omega), roomNew (fun j hj hc => (p2 j hj).1 hc) (hr0 r1 p1) k7 k8, k9⟩
/-- HAS becomes the same on both sides -/
theorem RelH.set (hH : RelH G wx wm) (h1 : FX m 109 wx wx') (hm : mkq m 5 0 = false ∧ mkq m 9 0 = false) {h : Int32} {r q1 g1 : Nat → Int32} (he : fget wx 5 0 = some (.int h)) (er : cget wx 9 0 = some (.inr (cyI G, 16, .inl r))) (A : CQ G wx' 10 16 q1) (B : CQ G wm' 6 16 g1) (e1 : ∀ j : Nat, j < 16 → (j : Int) < h.toInt → q1 j = g1 j) (e2 : ∀ j : Nat, j < 16 → h.toInt ≤ (j : Int) → q1 j = 0) (e3 : ∀ j : Nat, j < 16 → (q1 j).toInt ≤ (r j).toInt) : RelH G wx' wm' := by
  obtain ⟨q, a1, a2⟩ := A
  obtain ⟨g, b1, b2⟩ := B
  exact ⟨h, q, g, r, h1.get (by decide) hm.1 he, a1, b1, (h1 9 0 (by decide) hm.2).trans er, fun j hj hh => by rw [a2 j hj, b2 j hj]; exact e1 j hj hh, fun j hj hh => by rw [a2 j hj]; exact e2 j hj hh, fun j hj => by rw [a2 j hj]; exact e3 j hj⟩
theorem RelTh.set {t X Y : Nat → Int32} (A : CQ G wx' 105 8 t) (B : CQ G wm' 18 4 X) (C : CQ G wm' 19 4 Y) (e : pr4 t X Y) (b : b8 t) : RelTh G wx' wm' := by
  obtain ⟨q, a1, a2⟩ := A
  obtain ⟨g, b1, b2⟩ := B
  obtain ⟨k, c1, c2⟩ := C
  exact ⟨q, g, k, a1, b1, c1, fun j hj => ⟨by rw [a2 _ (by omega), b2 j hj]; exact (e j hj).1, by rw [a2 _ (by omega), c2 j hj]; exact (e j hj).2⟩, fun j hj => by rw [a2 j hj]; exact b j hj⟩
end GR3
-- lead
theorem lead_E {h : Int32} {q g r rm : Nat → Int32} {a v : Int32} (hh : h.toInt ≤ 16) (e4 : ∀ j : Nat, j < 16 → (j : Int) < h.toInt → q j = g j) (e5 : ∀ j : Nat, j < 16 → h.toInt ≤ (j : Int) → q j = 0) (e6 : ∀ j : Nat, j < 16 → (q j).toInt ≤ (r j).toInt) (er : ∀ j : Nat, j < 16 → (j : Int) < h.toInt → r j = rm j) : (mLead h.toInt r q a v).1 = (mLead h.toInt rm g a v).1 ∧ (∀ j : Nat, j < 16 → (j : Int) < h.toInt → (mLead h.toInt r q a v).2 j = (mLead h.toInt rm g a v).2 j) ∧ (∀ j : Nat, j < 16 → h.toInt ≤ (j : Int) → (mLead h.toInt r q a v).2 j = 0) ∧ ∀ j : Nat, j < 16 → ((mLead h.toInt r q a v).2 j).toInt ≤ (r j).toInt := by
  by_cases c0 : 0 ≤ a.toInt ∧ a.toInt < h.toInt
  · have ia : (a.toNatClampNeg : Int) = a.toInt := slot_of1 rfl c0.1
    have ra := er a.toNatClampNeg (by omega) (by omega)
    by_cases c : 0 ≤ a.toInt ∧ a.toInt < h.toInt ∧ 0 ≤ v.toInt ∧ v.toInt ≤ (r a.toNatClampNeg).toInt
    · have x1 : mLead h.toInt r q a v = (q a.toNatClampNeg, upd q a.toNatClampNeg v) := if_pos c
      have x2 : mLead h.toInt rm g a v = (g a.toNatClampNeg, upd g a.toNatClampNeg v) := if_pos (by rw [← ra]; exact c)
      rw [x1, x2]
      refine ⟨e4 _ (by omega) (by omega), fun j hj hl => ?_, fun j hj hl => ?_, fun j hj => ?_⟩
      · show upd q a.toNatClampNeg v j = upd g a.toNatClampNeg v j
        by_cases e : j = a.toNatClampNeg
        · rw [e, upd_at, upd_at]
        · rw [upd_off e, upd_off e]
          exact e4 j hj hl
      · show upd q a.toNatClampNeg v j = 0
        rw [upd_off (by omega)]
        exact e5 j hj hl
      · show (upd q a.toNatClampNeg v j).toInt ≤ _
        by_cases e : j = a.toNatClampNeg
        · rw [e, upd_at]
          exact c.2.2.2
        · rw [upd_off e]
          exact e6 j hj
    · have x1 : mLead h.toInt r q a v = (-1, q) := if_neg c
      have x2 : mLead h.toInt rm g a v = (-1, g) := if_neg (by rw [← ra]; exact c)
      rw [x1, x2]
      exact ⟨rfl, e4, e5, e6⟩
  · have x1 : mLead h.toInt r q a v = (-1, q) := if_neg (fun z => c0 ⟨z.1, z.2.1⟩)
    have x2 : mLead h.toInt rm g a v = (-1, g) := if_neg (fun z => c0 ⟨z.1, z.2.1⟩)
    rw [x1, x2]
    exact ⟨rfl, e4, e5, e6⟩
-- think
theorem think_E {t X Y : Nat → Int32} {a b c : Int32} (e : pr4 t X Y) (b0 : b8 t) : pr4 (mMass t a b c) (mMx X a b c) (mMy Y a b c) ∧ b8 (mMass t a b c) := by
  by_cases k : okMass a b c
  · have x1 : mMass t a b c = upd (upd t (2 * a).toNatClampNeg b) (2 * a + 1).toNatClampNeg c := if_pos k
    have x2 : mMx X a b c = upd X a.toNatClampNeg b := if_pos k
    have x3 : mMy Y a b c = upd Y a.toNatClampNeg c := if_pos k
    rw [x1, x2, x3]
    unfold okMass at k
    have d2 : (2 * a).toInt = 2 * a.toInt := tI_mul (show (2 : Int32).toInt = 2 from by decide) rfl (by omega)
    have d3 : (2 * a + 1).toInt = 2 * a.toInt + 1 := tI_add d2 (show (1 : Int32).toInt = 1 from by decide) (by omega)
    have n1 : (a.toNatClampNeg : Int) = a.toInt := slot_of1 rfl k.1
    have n2 : ((2 * a).toNatClampNeg : Int) = 2 * a.toInt := slot_of1 d2 (by omega)
    have n3 : ((2 * a + 1).toNatClampNeg : Int) = 2 * a.toInt + 1 := slot_of1 d3 (by omega)
    constructor
    · intro j hj
      by_cases ej : j = a.toNatClampNeg
      · constructor
        · rw [upd_off (by omega), show 2 * j = (2 * a).toNatClampNeg by omega, upd_at, ej, upd_at]
        · rw [show 2 * j + 1 = (2 * a + 1).toNatClampNeg by omega, upd_at, ej, upd_at]
      · constructor
        · rw [upd_off (by omega), upd_off (by omega), upd_off ej]
          exact (e j hj).1
        · rw [upd_off (by omega), upd_off (by omega), upd_off ej]
          exact (e j hj).2
    · intro j hj
      by_cases e3 : j = (2 * a + 1).toNatClampNeg
      · rw [e3, upd_at]
        omega
      · rw [upd_off e3]
        by_cases e2 : j = (2 * a).toNatClampNeg
        · rw [e2, upd_at]
          omega
        · rw [upd_off e2]
          exact b0 j hj
  · have x1 : mMass t a b c = t := if_neg k
    have x2 : mMx X a b c = X := if_neg k
    have x3 : mMy Y a b c = Y := if_neg k
    rw [x1, x2, x3]
    exact ⟨e, b0⟩
