/-! more groups: the pound, the masses as they truly are, the pound that is kept -/
def RelPd (_G : KG) (wx wm : va_W) : Prop := ∃ p o : Int32, (fget wx 5 7 = some (.int p) ∧ fget wm 0 28 = some (.int p)) ∧ (fget wx 5 8 = some (.int o) ∧ fget wm 0 29 = some (.int o)) ∧ 0 ≤ o.toInt ∧ o.toInt ≤ 20
def RelMt (G : KG) (wx wm : va_W) : Prop := ∃ t X Y : Nat → Int32, cget wx 104 0 = some (.inr (cyI G, 8, .inl t)) ∧ cget wm 16 0 = some (.inr (cyI G, 4, .inl X)) ∧ cget wm 17 0 = some (.inr (cyI G, 4, .inl Y)) ∧ pr4 t X Y ∧ b8 t
def RKp (kk b : Nat → Int32) (wx : va_W) (i : Nat) : Prop := ∃ fl p o : Int32, fget wx (46 + 19 * i) 0 = some (.int fl) ∧ fget wx (46 + 19 * i) 5 = some (.int p) ∧ fget wx (46 + 19 * i) 6 = some (.int o) ∧ b i = fl ∧ (0 ≤ fl.toInt ∧ fl.toInt ≤ 1) ∧ (fl.toInt ≠ 0 → kk (154 * i) = p ∧ kk (154 * i + 1) = o) ∧ 0 ≤ o.toInt ∧ o.toInt ≤ 20
def RelKp (G : KG) (wx wm : va_W) : Prop := ∃ b kk : Nat → Int32, cget wm 45 0 = some (.inr (cyZ G, 3, .inl b)) ∧ cget wm 46 0 = some (.inr (cyI G, 462, .inl kk)) ∧ ∀ i : Nat, i < 3 → RKp kk b wx i
section GR6
variable {G : KG} {wx wm wx' wm' : va_W} {m m' : List (Nat × Nat)}
theorem RelPd.keep (h : RelPd G wx wm) (h1 : FX m 109 wx wx') (h2 : FX m' 47 wm wm') (hm : (mkq m 5 7 = false ∧ mkq m' 0 28 = false) ∧ mkq m 5 8 = false ∧ mkq m' 0 29 = false) : RelPd G wx' wm' := by
  obtain ⟨p, o, ⟨e1, e2⟩, ⟨e3, e4⟩, e5⟩ := h
  exact ⟨p, o, ⟨h1.get (by decide) hm.1.1 e1, h2.get (by decide) hm.1.2 e2⟩, ⟨h1.get (by decide) hm.2.1 e3, h2.get (by decide) hm.2.2 e4⟩, e5⟩
theorem RelMt.keep (h : RelMt G wx wm) (h1 : FX m 109 wx wx') (h2 : FX m' 47 wm wm') (hm : mkq m 104 0 = false ∧ mkq m' 16 0 = false ∧ mkq m' 17 0 = false) : RelMt G wx' wm' := by
  obtain ⟨t, X, Y, e1, e2, e3, e4⟩ := h
  exact ⟨t, X, Y, (h1 104 0 (by decide) hm.1).trans e1, (h2 16 0 (by decide) hm.2.1).trans e2, (h2 17 0 (by decide) hm.2.2).trans e3, e4⟩
theorem RelMt.set {t X Y : Nat → Int32} (A : CQ G wx' 104 8 t) (B : CQ G wm' 16 4 X) (C : CQ G wm' 17 4 Y) (e : pr4 t X Y) (b : b8 t) : RelMt G wx' wm' := by
  obtain ⟨q, a1, a2⟩ := A
  obtain ⟨g, b1, b2⟩ := B
  obtain ⟨k, c1, c2⟩ := C
  exact ⟨q, g, k, a1, b1, c1, fun j hj => ⟨by rw [a2 _ (by omega), b2 j hj]; exact (e j hj).1, by rw [a2 _ (by omega), c2 j hj]; exact (e j hj).2⟩, fun j hj => by rw [a2 j hj]; exact b j hj⟩
abbrev mKp (m : List (Nat × Nat)) (i : Nat) : Prop := mkq m (46 + 19 * i) 0 = false ∧ mkq m (46 + 19 * i) 5 = false ∧ mkq m (46 + 19 * i) 6 = false
theorem RKp.keep {kk b : Nat → Int32} {i : Nat} (H : RKp kk b wx i) (h1 : FX m 109 wx wx') (hi : i < 3) (hm : mKp m i) : RKp kk b wx' i := by
  obtain ⟨fl, p, o, e1, e2, e3, e4⟩ := H
  exact ⟨fl, p, o, h1.get (by omega) hm.1 e1, h1.get (by omega) hm.2.1 e2, h1.get (by omega) hm.2.2 e3, e4⟩
theorem RelKp.keep (h : RelKp G wx wm) (h1 : FX m 109 wx wx') (h2 : FX m' 47 wm wm') (hm : (mKp m 0 ∧ mKp m 1 ∧ mKp m 2) ∧ mkq m' 45 0 = false ∧ mkq m' 46 0 = false) : RelKp G wx' wm' := by
  obtain ⟨b, kk, e3, e4, e5⟩ := h
  refine ⟨b, kk, (h2 45 0 (by decide) hm.2.1).trans e3, (h2 46 0 (by decide) hm.2.2).trans e4, fun i hi => (e5 i hi).keep h1 hi ?_⟩
  rcases (by omega : i = 0 ∨ i = 1 ∨ i = 2) with rfl | rfl | rfl
  · exact hm.1.1
  · exact hm.1.2.1
  · exact hm.1.2.2
/-- pound: what it leaves -/
theorem RelPd.set {h p o a v : Int32} {h0 : Int} (A : fget wx' 5 7 = some (.int (mPound h0 p o a v).2.1) ∧ fget wx' 5 8 = some (.int (mPound h0 p o a v).2.2)) (B : fget wm' 0 28 = some (.int (mPound h0 p o a v).2.1) ∧ fget wm' 0 29 = some (.int (mPound h0 p o a v).2.2)) (b : 0 ≤ o.toInt ∧ o.toInt ≤ 20) : RelPd G wx' wm' := by
  refine ⟨_, _, ⟨A.1, B.1⟩, ⟨A.2, B.2⟩, ?_⟩
  unfold mPound
  by_cases c : a.toInt = -1
  · rw [if_pos c]
    decide
  · rw [if_neg c]
    by_cases d : 0 ≤ a.toInt ∧ a.toInt < h0 ∧ 1 ≤ v.toInt ∧ v.toInt ≤ 20
    · rw [if_pos d]
      exact ⟨by show 0 ≤ v.toInt; omega, d.2.2.2⟩
    · rw [if_neg d]
      exact b
/-- a number is kept: its pound -/
theorem RelKp.kp (hK : RelKp G wx wm) (h1 : FX m 109 wx wx') {i : Nat} (hi : i < 3) (hm : ∀ j : Nat, j < 3 → j ≠ i → mKp m j) {b kk b2 k2 : Nat → Int32} {p o : Int32} (eb : cget wm 45 0 = some (.inr (cyZ G, 3, .inl b))) (ek : cget wm 46 0 = some (.inr (cyI G, 462, .inl kk)))
    (A : fget wx' (46 + 19 * i) 0 = some (.int 1) ∧ fget wx' (46 + 19 * i) 5 = some (.int p) ∧ fget wx' (46 + 19 * i) 6 = some (.int o)) (B : cget wm' 45 0 = some (.inr (cyZ G, 3, .inl b2)) ∧ cget wm' 46 0 = some (.inr (cyI G, 462, .inl k2))) (c1 : ∀ j : Nat, j < 3 → b2 j = if j = i then 1 else b j) (c2 : k2 (154 * i) = p ∧ k2 (154 * i + 1) = o) (c3 : ∀ j : Nat, j < 462 → (j < 154 * i ∨ 154 * i + 153 ≤ j) → k2 j = kk j) (ob : 0 ≤ o.toInt ∧ o.toInt ≤ 20) : RelKp G wx' wm' := by
  obtain ⟨b9, k9, q3, q4, q5⟩ := hK
  have zb : b = b9 := by
    have z := Sum.inr.inj (Option.some.inj (eb.symm.trans q3))
    exact Sum.inl.inj (congrArg (fun q => q.2.2) z)
  subst zb
  obtain rfl := arrinj (ek.symm.trans q4)
  refine ⟨b2, k2, B.1, B.2, fun j hj => ?_⟩
  by_cases ej : j = i
  · subst ej
    exact ⟨1, p, o, A.1, A.2.1, A.2.2, by rw [c1 j hj, if_pos rfl], by decide, fun _ => c2, ob⟩
  · obtain ⟨fl, p9, o9, y1, y2, y3, y4, y5, y6, y7⟩ := (q5 j hj).keep h1 hj (hm j hj ej)
    refine ⟨fl, p9, o9, y1, y2, y3, ?_, y5, fun hf => ⟨?_, ?_⟩, y7⟩
    · rw [c1 j hj, if_neg ej]
      exact y4
    · rw [c3 _ (by omega) (by omega)]
      exact (y6 hf).1
    · rw [c3 _ (by omega) (by omega)]
      exact (y6 hf).2
end GR6
