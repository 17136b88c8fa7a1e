/-! keep, again: HAS and THOUGHT; the relation of p5, p6, p27 and on -/
theorem ex_int {v : Int32} {m : Int} (h : ∃ v' : Int32, (some (.int v) : Option Value) = some (.int v') ∧ v'.toInt = m) : v.toInt = m := by
  obtain ⟨v', e, h⟩ := h
  rw [some_int e]
  exact h
theorem some_long {a b : Int64} (h : (some (.long a) : Option Value) = some (.long b)) : a = b := Value.long.inj (Option.some.inj h)
section GR5
variable {G : KG} {wx wm wx' wm' : va_W} {m m' : List (Nat × Nat)}
theorem CQ.get {w : va_W} {k n : Nat} {F : Nat → Int32} (h : CQ G w k n F) : ∃ q : Nat → Int32, cget w k 0 = some (.inr (cyI G, n, .inl q)) ∧ ∀ j, j < n → q j = F j := h
/-- a number is kept -/
theorem RelKh.kp (hK : RelKh G wx wm) (h1 : FX m 109 wx wx') {i : Nat} (hi : i < 3) (hm : (∀ j : Nat, j < 3 → j ≠ i → mKh m j) ∧ mkq m 5 0 = false ∧ mkq m 9 0 = false) {h : Int32} {r b kk zh zt u X Y : Nat → Int32} (he : fget wx 5 0 = some (.int h)) (er : cget wx 9 0 = some (.inr (cyI G, 16, .inl r))) (eb : cget wm 45 0 = some (.inr (cyZ G, 3, .inl b))) (ek : cget wm 46 0 = some (.inr (cyI G, 462, .inl kk)))
    (A : fget wx' (46 + 19 * i) 0 = some (.int 1) ∧ CQ G wx' (47 + 19 * i) 16 zh ∧ CQ G wx' (48 + 19 * i) 8 zt) {rr : Option Value} (B : KpQ G i h.toInt b kk u X Y rr wm')
    (e4 : ∀ j : Nat, j < 16 → (j : Int) < h.toInt → zh j = u j) (e5 : ∀ j : Nat, j < 16 → h.toInt ≤ (j : Int) → zh j = 0) (e6 : ∀ j : Nat, j < 16 → (zh j).toInt ≤ (r j).toInt) (e7 : pr4 zt X Y) (e8 : b8 zt) : RelKh G wx' wm' := by
  obtain ⟨h9, r9, b9, k9, q1, q2, q3, q4, q5⟩ := hK
  obtain rfl := some_int (he.symm.trans q1)
  obtain rfl := arrinj (er.symm.trans q2)
  have zb : b = b9 := by
    have z := Sum.inr.inj (Option.some.inj (eb.symm.trans q3))
    exact Sum.inl.inj (congrArg (fun q => q.2.2) z)
  subst zb
  obtain rfl := arrinj (ek.symm.trans q4)
  obtain ⟨-, ⟨b1, c1, c2⟩, k1, c3, c4, c5, c6⟩ := B
  refine ⟨h, r, b1, k1, h1.get (by decide) hm.2.1 he, (h1 9 0 (by decide) hm.2.2).trans er, c1, c3, fun j hj => ?_⟩
  by_cases ej : j = i
  · subst ej
    obtain ⟨a1, ⟨x1, a2, a3⟩, x2, a4, a5⟩ := A
    refine ⟨1, x1, x2, a1, a2, a4, ?_, by decide, fun _ => ⟨fun l hl => ?_, fun l hl => ⟨?_, ?_⟩⟩, fun l hl hh => ?_, fun l hl => ?_, fun l hl => ?_⟩
    · rw [c2 j hj, if_pos rfl]
    · rw [a3 l hl, c4 l hl]
      by_cases cl : (l : Int) < h.toInt
      · rw [if_pos cl]
        exact e4 l hl cl
      · rw [if_neg cl]
        exact e5 l hl (by omega)
    · rw [a5 _ (by omega), (c5 l hl).1]
      exact (e7 l hl).1
    · rw [a5 _ (by omega), (c5 l hl).2]
      exact (e7 l hl).2
    · rw [a3 l hl]
      exact e5 l hl hh
    · rw [a3 l hl]
      exact e6 l hl
    · rw [a5 l hl]
      exact e8 l hl
  · obtain ⟨fl, q, t, k1_, k2_, k3_, k4_, k5_, k6_, k7_⟩ := (q5 j hj).keep h1 hj (hm.1 j hj ej)
    refine ⟨fl, q, t, k1_, k2_, k3_, ?_, k5_, fun hf => ⟨fun l hl => ?_, fun l hl => ⟨?_, ?_⟩⟩, k7_⟩
    · rw [c2 j hj, if_neg ej]
      exact k4_
    · rw [c6 _ (by omega) (by omega)]
      exact (k6_ hf).1 l hl
    · rw [c6 _ (by omega) (by omega)]
      exact ((k6_ hf).2 l hl).1
    · rw [c6 _ (by omega) (by omega)]
      exact ((k6_ hf).2 l hl).2
/-- what was kept comes back -/
theorem RKh.back {h : Int32} {r kk b : Nat → Int32} {i : Nat} (H : RKh G h.toInt r kk b wx i) (h1 : FX m 109 wx wx') (hm : mkq m 5 0 = false ∧ mkq m 9 0 = false) {fl : Int32} {q t : Nat → Int32} (efl : fget wx (46 + 19 * i) 0 = some (.int fl)) (hf : fl.toInt ≠ 0) (eq : cget wx (47 + 19 * i) 0 = some (.inr (cyI G, 16, .inl q))) (et : cget wx (48 + 19 * i) 0 = some (.inr (cyI G, 8, .inl t))) (he : fget wx 5 0 = some (.int h)) (er : cget wx 9 0 = some (.inr (cyI G, 16, .inl r)))
    (A : CQ G wx' 10 16 q ∧ CQ G wx' 105 8 t) (B : CQ G wm' 6 16 (fun m => kk (154 * i + 2 + m)) ∧ CQ G wm' 18 4 (fun m => kk (154 * i + 18 + 2 * m)) ∧ CQ G wm' 19 4 (fun m => kk (154 * i + 19 + 2 * m))) : RelH G wx' wm' ∧ RelTh G wx' wm' := by
  obtain ⟨f9, q9, t9, k1, k2, k3, -, -, k6, k7, k8, k9⟩ := H
  obtain rfl := some_int (efl.symm.trans k1)
  obtain rfl := arrinj (eq.symm.trans k2)
  obtain rfl := arrinj (et.symm.trans k3)
  obtain ⟨z1, z2⟩ := k6 hf
  obtain ⟨x1, a1, a2⟩ := A.1
  obtain ⟨u1, b1, b2⟩ := B.1
  refine ⟨⟨h, x1, u1, r, h1.get (by decide) hm.1 he, a1, b1, (h1 9 0 (by decide) hm.2).trans er, fun j hj hl => ?_, fun j hj hl => ?_, fun j hj => ?_⟩, RelTh.set A.2 B.2.1 B.2.2 (fun j hj => z2 j hj) k9⟩
  · rw [a2 j hj, b2 j hj]
    exact z1 j hj
  · rw [a2 j hj]
    exact k7 j hj hl
  · rw [a2 j hj]
    exact k8 j hj
/-- HAS stays as it was -/
theorem RelH.same (hH : RelH G wx wm) (h1 : FX m 109 wx wx') (hm : mkq m 5 0 = false ∧ mkq m 9 0 = false ∧ mkq m 10 0 = false) {g : Nat → Int32} (eg : cget wm 6 0 = some (.inr (cyI G, 16, .inl g))) (B : CQ G wm' 6 16 g) : RelH G wx' wm' := by
  obtain ⟨h, q, g9, r, e1, e2, e3, e4, e5, e6, e7⟩ := hH
  obtain rfl := arrinj (eg.symm.trans e3)
  obtain ⟨u, b1, b2⟩ := B
  exact ⟨h, q, u, r, h1.get (by decide) hm.1 e1, (h1 10 0 (by decide) hm.2.2).trans e2, b1, (h1 9 0 (by decide) hm.2.1).trans e4, fun j a c => by rw [b2 j a]; exact e5 j a c, e6, e7⟩
theorem RelTh.same (hT : RelTh G wx wm) (h1 : FX m 109 wx wx') (hm : mkq m 105 0 = false) {X Y : Nat → Int32} (eX : cget wm 18 0 = some (.inr (cyI G, 4, .inl X))) (eY : cget wm 19 0 = some (.inr (cyI G, 4, .inl Y))) (B : CQ G wm' 18 4 X) (C : CQ G wm' 19 4 Y) : RelTh G wx' wm' := by
  obtain ⟨t, X9, Y9, e1, e2, e3, e4, e5⟩ := hT
  obtain rfl := arrinj (eX.symm.trans e2)
  obtain rfl := arrinj (eY.symm.trans e3)
  obtain ⟨u, b1, b2⟩ := B
  obtain ⟨v, c1, c2⟩ := C
  exact ⟨t, u, v, (h1 105 0 (by decide) hm).trans e1, b1, c1, fun j a => ⟨by rw [b2 j a]; exact (e4 j a).1, by rw [c2 j a]; exact (e4 j a).2⟩, e5⟩
end GR5
def RelQ (G : KG) (wx wm : va_W) : Prop := (RelM G wx wm ∧ RelAr G wx wm ∧ RelD G wx wm ∧ RelC G wx wm) ∧ RelXY G wx wm ∧ RelB G wx wm ∧ RelH G wx wm ∧ RelTh G wx wm ∧ RelKh G wx wm
section RLQ
variable {G : KG} {wx wm : va_W}
theorem RelQ.of (a : RelM G wx wm) (b : RelAr G wx wm) (c : RelD G wx wm) (d : RelC G wx wm) (e : RelXY G wx wm) (f : RelB G wx wm) (g : RelH G wx wm) (h : RelTh G wx wm) (i : RelKh G wx wm) : RelQ G wx wm := ⟨⟨a, b, c, d⟩, e, f, g, h, i⟩
theorem RelQ.m (q : RelQ G wx wm) : RelM G wx wm := q.1.1
theorem RelQ.a (q : RelQ G wx wm) : RelAr G wx wm := q.1.2.1
theorem RelQ.d (q : RelQ G wx wm) : RelD G wx wm := q.1.2.2.1
theorem RelQ.c (q : RelQ G wx wm) : RelC G wx wm := q.1.2.2.2
theorem RelQ.x (q : RelQ G wx wm) : RelXY G wx wm := q.2.1
theorem RelQ.b (q : RelQ G wx wm) : RelB G wx wm := q.2.2.1
theorem RelQ.h (q : RelQ G wx wm) : RelH G wx wm := q.2.2.2.1
theorem RelQ.t (q : RelQ G wx wm) : RelTh G wx wm := q.2.2.2.2.1
theorem RelQ.k (q : RelQ G wx wm) : RelKh G wx wm := q.2.2.2.2.2
end RLQ
/-- ints of the class's world, by its types -/
theorem cwx_ints {G : KG} {x : Nat} {w : va_W} {k n : Nat} {a b : Int} {q : Nat → Int32} (h : CWx G x w) (hT : TX[k]? = some (.inr (0, n, (0, a, b)))) (hTP : TXP[k]? = some (.inr (0, n, (0, a, b)))) (e : cget w k 0 = some (.inr (cyI G, n, .inl q))) : ∀ j : Nat, j < n → a ≤ (q j).toInt ∧ (q j).toInt ≤ b := by
  obtain ⟨ad, e0, h⟩ := h
  rcases h with ⟨hW, -, -⟩ | ⟨hW, -, -⟩
  · obtain ⟨f, c, z⟩ := WT.ints hW hT
    obtain rfl := arrinj ((cgetI c 0).symm.trans e)
    exact fun j hj => ⟨(z j hj).1, (z j hj).2.1⟩
  · obtain ⟨f, c, z⟩ := WT.ints hW hTP
    obtain rfl := arrinj ((cgetI c 0).symm.trans e)
    exact fun j hj => ⟨(z j hj).1, (z j hj).2.1⟩
theorem tXY {t X Y : Nat → Int32} {pq : Int32} (e : pr4 t X Y) (h : 0 ≤ pq.toInt ∧ pq.toInt ≤ 1) : tX t pq = X pq.toNatClampNeg ∧ tY t pq = Y pq.toNatClampNeg := by
  have z0 : (0 : Int32).toInt = 0 := by decide
  have z1 : (1 : Int32).toInt = 1 := by decide
  unfold tX tY
  rcases (by omega : pq.toInt = 0 ∨ pq.toInt = 1) with c | c
  · obtain rfl : pq = 0 := Int32.toInt_inj.mp (c.trans z0.symm)
    exact ⟨(e 0 (by decide)).1, (e 0 (by decide)).2⟩
  · obtain rfl : pq = 1 := Int32.toInt_inj.mp (c.trans z1.symm)
    exact ⟨(e 1 (by decide)).1, (e 1 (by decide)).2⟩
theorem tXb {t : Nat → Int32} {pq : Int32} (b : b8 t) (h : 0 ≤ pq.toInt ∧ pq.toInt ≤ 1) : (-9999 ≤ (tX t pq).toInt ∧ (tX t pq).toInt ≤ 9999) ∧ -9999 ≤ (tY t pq).toInt ∧ (tY t pq).toInt ≤ 9999 := by
  have z0 : (0 : Int32).toInt = 0 := by decide
  have z1 : (1 : Int32).toInt = 1 := by decide
  unfold tX tY
  rcases (by omega : pq.toInt = 0 ∨ pq.toInt = 1) with c | c
  · obtain rfl : pq = 0 := Int32.toInt_inj.mp (c.trans z0.symm)
    exact ⟨b 0 (by decide), b 1 (by decide)⟩
  · obtain rfl : pq = 1 := Int32.toInt_inj.mp (c.trans z1.symm)
    exact ⟨b 2 (by decide), b 3 (by decide)⟩
theorem SB.of {h : Int} {fp fh fr fx fy t : Nat → Int32} {pq : Int32} (hh : h ≤ 16) (p : ∀ j : Nat, j < 16 → 0 ≤ (fp j).toInt ∧ (fp j).toInt ≤ 1) (q : ∀ j : Nat, j < 16 → 0 ≤ (fh j).toInt ∧ (fh j).toInt ≤ 9) (r : ∀ j : Nat, j < 16 → 0 ≤ (fr j).toInt ∧ (fr j).toInt ≤ 9) (x : ∀ j : Nat, j < 16 → (j : Int) < h → -99 ≤ (fx j).toInt ∧ (fx j).toInt ≤ 99) (y : ∀ j : Nat, j < 16 → (j : Int) < h → -99 ≤ (fy j).toInt ∧ (fy j).toInt ≤ 99) (b : b8 t) : 0 ≤ pq.toInt ∧ pq.toInt ≤ 1 → SB h fp fh fr fx fy (tX t pq) (tY t pq) := fun hp =>
  ⟨hh, fun j hj => p j (by omega), fun j hj => q j (by omega), fun j hj => r j (by omega), fun j hj => x j (by omega) hj, fun j hj => y j (by omega) hj, (tXb b hp).1, (tXb b hp).2⟩
theorem RelH.settle {G : KG} {wx wx' wm' : va_W} {m : List (Nat × Nat)} (h1 : FX m 109 wx wx') (hm : mkq m 5 0 = false ∧ mkq m 9 0 = false) {h pq v1 v2 : Int32} {fp fr fx fy fh t gp gr gx gy gh X Y : Nat → Int32} (he : fget wx 5 0 = some (.int h)) (er : cget wx 9 0 = some (.inr (cyI G, 16, .inl fr))) (hh : h.toInt ≤ 16)
    (e1 : ∀ j : Nat, j < 16 → (j : Int) < h.toInt → fp j = gp j) (e2 : ∀ j : Nat, j < 16 → (j : Int) < h.toInt → fr j = gr j) (e3 : ∀ j : Nat, j < 16 → (j : Int) < h.toInt → fx j = gx j) (e4 : ∀ j : Nat, j < 16 → (j : Int) < h.toInt → fy j = gy j) (e5 : ∀ j : Nat, j < 16 → (j : Int) < h.toInt → fh j = gh j) (e6 : ∀ j : Nat, j < 16 → h.toInt ≤ (j : Int) → fh j = 0) (e7 : ∀ j : Nat, j < 16 → (fh j).toInt ≤ (fr j).toInt) (r9 : ∀ j : Nat, j < 16 → 0 ≤ (fr j).toInt ∧ (fr j).toInt ≤ 9) (h9 : ∀ j : Nat, j < 16 → 0 ≤ (fh j).toInt ∧ (fh j).toInt ≤ 9) (et : pr4 t X Y)
    (A : ∃ (v : Int32) (q : Nat → Int32), (some (.int v1) : Option Value) = some (.int v) ∧ SetE h.toInt fp fr fx fy (tX t pq) (tY t pq) pq.toInt fh v q ∧ CQ G wx' 10 16 q) (B : ∃ (v : Int32) (q : Nat → Int32), (some (.int v2) : Option Value) = some (.int v) ∧ SetE h.toInt gp gr gx gy (X pq.toNatClampNeg) (Y pq.toNatClampNeg) pq.toInt gh v q ∧ CQ G wm' 6 16 q) : v1 = v2 ∧ RelH G wx' wm' := by
  obtain ⟨a1, q1, a2, a3, x1, a4, a5⟩ := A
  obtain ⟨b1, g1, b2, b3, u1, b4, b5⟩ := B
  obtain rfl := some_int a2
  obtain rfl := some_int b2
  have f : ∀ {a b : Nat → Int32}, (∀ j : Nat, j < 16 → (j : Int) < h.toInt → a j = b j) → EH h.toInt a b := fun z j hj => z j (by omega) hj
  obtain ⟨s1, s2⟩ := SetE.same (f e1) (f e2) (f e3) (f e4) (f e5) (fun hp => tXY et hp) a3 b3
  obtain ⟨p1, p2⟩ := SetE.P (r := fr) hh (fun j _ => rfl) r9 e6 e7 (fun j hj => (h9 j (by omega)).1) a3
  refine ⟨s1, h, x1, u1, fr, h1.get (by decide) hm.1 he, a4, b4, (h1 9 0 (by decide) hm.2).trans er, fun j hj hl => ?_, fun j hj hl => ?_, fun j hj => ?_⟩
  · rw [a5 j hj, b5 j hj]
    exact s2 j hl
  · rw [a5 j hj]
    exact p1 j hj hl
  · rw [a5 j hj]
    exact p2 j hj
