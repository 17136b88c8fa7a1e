/-! the counts of trials, and what is kept of them -/
theorem pre_F2 {C : CE} {ts : List VT} {As : List Value} {x k0 j0 k1 j1 : Nat} {f g : Value} {t0 t1 : VT} (h1 : C.1 = (2, 0, 0) :: ts) (h2 : C.2.1 = [(k0, j0, t0), (k1, j1, t1)]) (hl : As.length < 99) (hA : AOK ts As) (ht : ∀ ad, vty ad t0 f) (hu : ∀ ad, vty ad t1 g) (hr : ∀ q ∈ C.2.2.1, vI (muF x As [f, g] q.1) ≤ vI (muF x As [f, g] q.2.1) + q.2.2) (ad : Nat → Nat) (w0 : va_W) (he : ad 0 = x) (hf : fget w0 k0 j0 = some f) (hg : fget w0 k1 j1 = some g) : PRE ad C (muF x As [f, g]) w0 := by
  refine ⟨fun j t hj => ?_, fun j q hj => ?_, hr⟩
  · rw [h1] at hj
    have hlt : j < 100 := by
      have h3 := (List.getElem?_eq_some_iff.mp hj).1
      rw [List.length_cons, aok_len ts As hA] at h3
      omega
    have e : muF x As [f, g] j = ((Value.ref x :: As)[j]?).getD .null := if_pos hlt
    rw [e]
    match j, hj with
    | 0, hj =>
      cases hj
      exact Or.inr (Or.inr (Or.inl ⟨rfl, by show Value.ref x = .ref (ad 0); rw [he]⟩))
    | j + 1, hj => exact aok_get ts As hA j t hj ad
  · rw [h2] at hj
    match j, hj with
    | 0, hj =>
      cases hj
      exact ⟨ht ad, hf⟩
    | 1, hj =>
      cases hj
      exact ⟨hu ad, hg⟩
    | j + 2, hj => cases hj
/-- a value by its relation to another -/
theorem rel_eq {ν : Nat → Value} {rl : ARl} {a b : Nat} {d : Int} {x y : Int32} (H : ∀ q ∈ rl, vI (ν q.1) ≤ vI (ν q.2.1) + q.2.2) (h1 : (a, b, d) ∈ rl) (h2 : (b, a, -d) ∈ rl) (ea : ν a = .int x) (eb : ν b = .int y) : x.toInt = y.toInt + d := by
  have g1 := H _ h1
  have g2 := H _ h2
  have g1 : vI (ν a) ≤ vI (ν b) + d := g1
  have g2 : vI (ν b) ≤ vI (ν a) + -d := g2
  rw [ea, eb] at g1 g2
  have g1 : x.toInt ≤ y.toInt + d := g1
  have g2 : y.toInt ≤ x.toInt + -d := g2
  omega
def RKi (kk b : Nat → Int32) (wx : va_W) (i : Nat) : Prop := ∃ fl c : Int32, fget wx (46 + 19 * i) 0 = some (.int fl) ∧ fget wx (55 + 19 * i) 0 = some (.int c) ∧ b i = fl ∧ (0 ≤ fl.toInt ∧ fl.toInt ≤ 1) ∧ (0 ≤ c.toInt ∧ c.toInt ≤ 12) ∧ (fl.toInt ≠ 0 → kk (154 * i + 44) = c)
def RelK (G : KG) (wx wm : va_W) : Prop := ∃ (t : Int32) (b kk : Nat → Int32), (0 ≤ t.toInt ∧ t.toInt ≤ 12) ∧ (fget wx 22 0 = some (.int t) ∧ fget wm 0 31 = some (.int t)) ∧ cget wm 45 0 = some (.inr (cyZ G, 3, .inl b)) ∧ cget wm 46 0 = some (.inr (cyI G, 462, .inl kk)) ∧ ∀ i : Nat, i < 3 → RKi kk b wx i
abbrev mK (m : List (Nat × Nat)) : Prop := (mkq m 46 0 = false ∧ mkq m 65 0 = false ∧ mkq m 84 0 = false) ∧ mkq m 55 0 = false ∧ mkq m 74 0 = false ∧ mkq m 93 0 = false
theorem RKi.keep {kk b : Nat → Int32} {wx wx' : va_W} {i : Nat} {m : List (Nat × Nat)} (h : RKi kk b wx i) (h1 : FX m 109 wx wx') (hi : i < 3) (hm : mkq m (46 + 19 * i) 0 = false ∧ mkq m (55 + 19 * i) 0 = false) : RKi kk b wx' i := by
  obtain ⟨fl, c, e1, e2, r⟩ := h
  exact ⟨fl, c, h1.get (by omega) hm.1 e1, h1.get (by omega) hm.2 e2, r⟩
theorem mK.at {m : List (Nat × Nat)} (h : mK m) {i : Nat} (hi : i < 3) : mkq m (46 + 19 * i) 0 = false ∧ mkq m (55 + 19 * i) 0 = false := by
  obtain ⟨⟨a0, a1, a2⟩, b0, b1, b2⟩ := h
  rcases (by omega : i = 0 ∨ i = 1 ∨ i = 2) with rfl | rfl | rfl
  · exact ⟨a0, b0⟩
  · exact ⟨a1, b1⟩
  · exact ⟨a2, b2⟩
section RLK
variable {G : KG} {wx wm wx' wm' : va_W} {m m' : List (Nat × Nat)}
theorem RelK.keep (h : RelK G wx wm) (h1 : FX m 109 wx wx') (h2 : FX m' 47 wm wm') (hm : mK m ∧ (mkq m 22 0 = false ∧ mkq m' 0 31 = false) ∧ mkq m' 45 0 = false ∧ mkq m' 46 0 = false) : RelK G wx' wm' := by
  obtain ⟨t, b, kk, ht, ⟨e1, e2⟩, e3, e4, e5⟩ := h
  obtain ⟨m0, ⟨m1, m2⟩, m3, m4⟩ := hm
  exact ⟨t, b, kk, ht, ⟨h1.get (by decide) m1 e1, h2.get (by decide) m2 e2⟩, (h2 45 0 (by decide) m3).trans e3, (h2 46 0 (by decide) m4).trans e4, fun i hi => (e5 i hi).keep h1 hi (m0.at hi)⟩
/-- another number of trials -/
theorem RelK.cnt (h : RelK G wx wm) (h1 : FX m 109 wx wx') (h2 : FX m' 47 wm wm') (hm : mK m ∧ mkq m' 45 0 = false ∧ mkq m' 46 0 = false) {t : Int32} (ht : 0 ≤ t.toInt ∧ t.toInt ≤ 12) (f1 : fget wx' 22 0 = some (.int t)) (f2 : fget wm' 0 31 = some (.int t)) : RelK G wx' wm' := by
  obtain ⟨_, b, kk, _, _, e3, e4, e5⟩ := h
  obtain ⟨m0, m3, m4⟩ := hm
  exact ⟨t, b, kk, ht, ⟨f1, f2⟩, (h2 45 0 (by decide) m3).trans e3, (h2 46 0 (by decide) m4).trans e4, fun i hi => (e5 i hi).keep h1 hi (m0.at hi)⟩
def KpE (G : KG) (t a : Int32) (b kk : Nat → Int32) (r : Option Value) (w1 : va_W) : Prop := r = some (.int 1) ∧ (∃ q : Nat → Int32, cget w1 45 0 = some (.inr (cyZ G, 3, .inl q)) ∧ ∀ j : Nat, j < 3 → q j = if (j : Int) = a.toInt then 1 else b j) ∧ ∃ q : Nat → Int32, cget w1 46 0 = some (.inr (cyI G, 462, .inl q)) ∧ q (154 * a.toInt + 44).toNat = t ∧ ∀ j : Nat, j < 462 → ((j : Int) < 154 * a.toInt ∨ 154 * a.toInt + 154 ≤ (j : Int)) → q j = kk j
/-- keep, at a number: the others as they were -/
theorem RelK.kp (h : RelK G wx wm) (h1 : FX m 109 wx wx') (h2 : FX m' 47 wm wm') {i : Nat} {t a : Int32} {b kk : Nat → Int32} (hi : i < 3) (ha : a.toInt = (i : Int)) (hm : (∀ j : Nat, j < 3 → j ≠ i → mkq m (46 + 19 * j) 0 = false ∧ mkq m (55 + 19 * j) 0 = false) ∧ mkq m 22 0 = false ∧ mkq m' 0 31 = false) (et : fget wx 22 0 = some (.int t)) (eb : cget wm 45 0 = some (.inr (cyZ G, 3, .inl b))) (ek : cget wm 46 0 = some (.inr (cyI G, 462, .inl kk))) {r : Option Value} (B : KpE G t a b kk r wm') {fl c : Int32} (x1 : fget wx' (46 + 19 * i) 0 = some (.int fl)) (x2 : fget wx' (55 + 19 * i) 0 = some (.int c)) (hf : fl.toInt = 1) (hc : c = t) : RelK G wx' wm' := by
  obtain ⟨t0, b0, k0, ht, ⟨e1, e2⟩, e3, e4, e5⟩ := h
  obtain rfl := some_int (et.symm.trans e1)
  have zb : b = b0 := by
    have z := Sum.inr.inj (Option.some.inj (eb.symm.trans e3))
    exact Sum.inl.inj (congrArg (fun q => q.2.2) z)
  subst zb
  obtain rfl := arrinj (ek.symm.trans e4)
  obtain ⟨-, ⟨q, q1, q2⟩, p, p1, p2, p3⟩ := B
  refine ⟨t, q, p, ht, ⟨h1.get (by decide) hm.2.1 e1, h2.get (by decide) hm.2.2 e2⟩, q1, p1, fun j hj => ?_⟩
  by_cases e : j = i
  · subst e
    refine ⟨fl, c, x1, x2, ?_, by omega, by rw [hc]; exact ht, fun _ => ?_⟩
    · rw [q2 j hj, if_pos ha.symm]
      exact Int32.toInt_inj.mp (by rw [hf]; decide)
    · rw [hc, ← p2, ha]
      congr 1
  · obtain ⟨f9, c9, y1, y2, y3, y4, y5, y6⟩ := (e5 j hj).keep h1 hj (hm.1 j hj e)
    refine ⟨f9, c9, y1, y2, ?_, y4, y5, fun g => ?_⟩
    · rw [q2 j hj, if_neg (by omega)]
      exact y3
    · rw [p3 (154 * j + 44) (by omega) (by omega)]
      exact y6 g
end RLK
def RelP (G : KG) (wx wm : va_W) : Prop := RelM G wx wm ∧ RelK G wx wm
theorem RelP.of {G : KG} {wx wm : va_W} (a : RelM G wx wm) (b : RelK G wx wm) : RelP G wx wm := ⟨a, b⟩
theorem RelP.m {G : KG} {wx wm : va_W} (h : RelP G wx wm) : RelM G wx wm := And.left h
theorem RelP.k {G : KG} {wx wm : va_W} (h : RelP G wx wm) : RelK G wx wm := And.right h
