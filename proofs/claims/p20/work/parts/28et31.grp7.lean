/-! the relation of p14, p41: RelQ's groups, the pound, what is TRULY, the pound that is kept -/
theorem arrinjZ {c : ClassId} {n : Nat} {f g : Nat → Int32} (h : (some (.inr (c, n, .inl f)) : Option (Value ⊕ (ClassId × vp_A))) = some (.inr (c, n, .inl g))) : f = g := by
  have h1 := Sum.inr.inj (Option.some.inj h)
  have h2 := congrArg (fun q => q.2.2) h1
  exact Sum.inl.inj h2
section GR7
variable {G : KG} {wx wm wx' wm' : va_W} {m m' : List (Nat × Nat)}
/-- the pound comes back as it was kept -/
theorem RKp.back {kk b : Nat → Int32} {i : Nat} (H : RKp kk b wx i) {fl p o : Int32} (efl : fget wx (46 + 19 * i) 0 = some (.int fl)) (hf : fl.toInt ≠ 0) (ep : fget wx (46 + 19 * i) 5 = some (.int p)) (eo : fget wx (46 + 19 * i) 6 = some (.int o)) (A : fget wx' 5 7 = some (.int p) ∧ fget wx' 5 8 = some (.int o)) (B : fget wm' 0 28 = some (.int (kk (154 * i))) ∧ fget wm' 0 29 = some (.int (kk (154 * i + 1)))) : RelPd G wx' wm' := by
  obtain ⟨f9, p9, o9, k1, k2, k3, -, -, k6, k7⟩ := H
  obtain rfl := some_int (efl.symm.trans k1)
  obtain rfl := some_int (ep.symm.trans k2)
  obtain rfl := some_int (eo.symm.trans k3)
  obtain ⟨z1, z2⟩ := k6 hf
  exact ⟨p, o, ⟨A.1, by rw [← z1]; exact B.1⟩, ⟨A.2, by rw [← z2]; exact B.2⟩, k7⟩
theorem RelPd.same (hP : RelPd G wx wm) (h1 : FX m 109 wx wx') (hm : mkq m 5 7 = false ∧ mkq m 5 8 = false) {p o : Int32} (ep : fget wm 0 28 = some (.int p)) (eo : fget wm 0 29 = some (.int o)) (B : fget wm' 0 28 = some (.int p) ∧ fget wm' 0 29 = some (.int o)) : RelPd G wx' wm' := by
  obtain ⟨p9, o9, ⟨e1, e2⟩, ⟨e3, e4⟩, e5⟩ := hP
  obtain rfl := some_int (ep.symm.trans e2)
  obtain rfl := some_int (eo.symm.trans e4)
  exact ⟨p, o, ⟨h1.get (by decide) hm.1 e1, B.1⟩, ⟨h1.get (by decide) hm.2 e3, B.2⟩, e5⟩
theorem RelKp.kpP (hK : RelKp G wx wm) (h1 : FX m 109 wx wx') {i : Nat} (hi : i < 3) (hm : ∀ j : Nat, j < 3 → j ≠ i → mKp m j) {b kk : Nat → Int32} {p o : Int32} (eb : cget wm 45 0 = some (.inr (cyZ G, 3, .inl b))) (ek : cget wm 46 0 = some (.inr (cyI G, 462, .inl kk)))
    (A : fget wx' (46 + 19 * i) 0 = some (.int 1) ∧ fget wx' (46 + 19 * i) 5 = some (.int p) ∧ fget wx' (46 + 19 * i) 6 = some (.int o)) (B : KpP G i b kk p o wm') (ob : 0 ≤ o.toInt ∧ o.toInt ≤ 20) : RelKp G wx' wm' := by
  obtain ⟨⟨b2, q1, q2⟩, k2, q3, q4, q5⟩ := B
  exact RelKp.kp hK h1 hi hm eb ek A ⟨q1, q3⟩ q2 q4 q5 ob
end GR7
def RelS (G : KG) (wx wm : va_W) : Prop := RelQ G wx wm ∧ RelPd G wx wm ∧ RelMt G wx wm ∧ RelKp G wx wm
section RLS
variable {G : KG} {wx wm : va_W}
theorem RelS.of (a : RelM G wx wm) (b : RelAr G wx wm) (c : RelD G wx wm) (d : RelC G wx wm) (e : RelXY G wx wm) (f : RelB G wx wm) (g : RelH G wx wm) (h : RelTh G wx wm) (i : RelKh G wx wm) (p : RelPd G wx wm) (u : RelMt G wx wm) (w : RelKp G wx wm) : RelS G wx wm := ⟨RelQ.of a b c d e f g h i, p, u, w⟩
theorem RelS.m (q : RelS G wx wm) : RelM G wx wm := q.1.m
theorem RelS.a (q : RelS G wx wm) : RelAr G wx wm := q.1.a
theorem RelS.d (q : RelS G wx wm) : RelD G wx wm := q.1.d
theorem RelS.c (q : RelS G wx wm) : RelC G wx wm := q.1.c
theorem RelS.x (q : RelS G wx wm) : RelXY G wx wm := q.1.x
theorem RelS.b (q : RelS G wx wm) : RelB G wx wm := q.1.b
theorem RelS.h (q : RelS G wx wm) : RelH G wx wm := q.1.h
theorem RelS.t (q : RelS G wx wm) : RelTh G wx wm := q.1.t
theorem RelS.k (q : RelS G wx wm) : RelKh G wx wm := q.1.k
theorem RelS.p (q : RelS G wx wm) : RelPd G wx wm := q.2.1
theorem RelS.u (q : RelS G wx wm) : RelMt G wx wm := q.2.2.1
theorem RelS.w (q : RelS G wx wm) : RelKp G wx wm := q.2.2.2
end RLS
