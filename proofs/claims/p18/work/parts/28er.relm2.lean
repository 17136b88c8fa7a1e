/-! the relation: the same signs on both tapes, as many holes, speeds and cogs -/
theorem lim60 (n : Int32) : (if 60 < n then 60 else n : Int32).toInt ≤ 60 := by
  have h : (if 60 < n then 60 else n : Int32).toInt = min n.toInt 60 := tI_min rfl (show (60 : Int32).toInt = 60 from by decide)
  omega
theorem MilE.ret {kn jn kh jh ks js kc jc : Nat} {n : Int32} {f : Nat → Int32} {h s c : Int32} {r : Option Value} {w1 : va_W} (H : MilE kn jn kh jh ks js kc jc n f h s c r w1) : ∃ v : Int32, r = some (.int v) := by
  obtain ⟨v, h2, s2, c2, e, -⟩ := H
  exact ⟨v, e⟩
theorem MilE.app {kn jn kh jh ks js kc jc : Nat} {n : Int32} {f : Nat → Int32} {h s c : Int32} {r : Option Value} {w1 wc : va_W} (hk : kn < w1.length ∧ kh < w1.length ∧ ks < w1.length ∧ kc < w1.length) (H : MilE kn jn kh jh ks js kc jc n f h s c r w1) : MilE kn jn kh jh ks js kc jc n f h s c r (w1 ++ wc) := by
  obtain ⟨v, h2, s2, c2, e, hC, hB, f1, f2, f3, f4⟩ := H
  exact ⟨v, h2, s2, c2, e, hC, hB, by rw [fget_app hk.1]; exact f1, by rw [fget_app hk.2.1]; exact f2, by rw [fget_app hk.2.2.1]; exact f3, by rw [fget_app hk.2.2.2]; exact f4⟩
theorem SgnE.ret {G : KG} {kn jn kt : Nat} {n v : Int32} {f : Nat → Int32} {r : Option Value} {w1 : va_W} (H : SgnE G kn jn kt n f v r w1) : ∃ v : Int32, r = some (.int v) := by
  obtain ⟨v, f2, e, -⟩ := H
  exact ⟨v, e⟩
theorem SgnE.app {G : KG} {kn jn kt : Nat} {n v : Int32} {f : Nat → Int32} {r : Option Value} {w1 wc : va_W} (hk : kn < w1.length ∧ kt < w1.length) (H : SgnE G kn jn kt n f v r w1) : SgnE G kn jn kt n f v r (w1 ++ wc) := by
  obtain ⟨n2, f2, e, h1, f1, f3, f4⟩ := H
  exact ⟨n2, f2, e, h1, by rw [fget_app hk.1]; exact f1, by rw [cget_app hk.2]; exact f3, f4⟩
def RelM (G : KG) (wx wm : va_W) : Prop :=
  ∃ (n h s c : Int32) (f g : Nat → Int32), (0 ≤ n.toInt ∧ n.toInt ≤ 80) ∧ ((0 ≤ h.toInt ∧ h.toInt ≤ 16) ∧ (0 ≤ s.toInt ∧ s.toInt ≤ 6) ∧ (0 ≤ c.toInt ∧ c.toInt ≤ 8)) ∧ TE80 f g ∧ (fget wx 3 1 = some (.int n) ∧ fget wm 0 19 = some (.int n)) ∧ (fget wx 5 0 = some (.int h) ∧ fget wm 0 3 = some (.int h)) ∧ (fget wx 12 0 = some (.int s) ∧ fget wm 0 10 = some (.int s)) ∧ (fget wx 18 0 = some (.int c) ∧ fget wm 0 16 = some (.int c)) ∧ cget wx 4 0 = some (.inr (cyI G, 80, .inl f)) ∧ cget wm 14 0 = some (.inr (cyI G, 80, .inl g))
abbrev mN (m m' : List (Nat × Nat)) : Prop := mkq m 3 1 = false ∧ mkq m' 0 19 = false
abbrev mT (m m' : List (Nat × Nat)) : Prop := mkq m 4 0 = false ∧ mkq m' 14 0 = false
abbrev mC (m m' : List (Nat × Nat)) : Prop := (mkq m 5 0 = false ∧ mkq m' 0 3 = false) ∧ (mkq m 12 0 = false ∧ mkq m' 0 10 = false) ∧ (mkq m 18 0 = false ∧ mkq m' 0 16 = false)
section RLM
variable {G : KG} {wx wm wx' wm' : va_W} {m m' : List (Nat × Nat)}
theorem RelM.keep (h : RelM G wx wm) (h1 : FX m 109 wx wx') (h2 : FX m' 47 wm wm') (hm : mN m m' ∧ mT m m' ∧ mC m m') : RelM G wx' wm' := by
  obtain ⟨n, a, s, c, f, g, rn, rc, e, ⟨n1, n2⟩, ⟨a1, a2⟩, ⟨s1, s2⟩, ⟨c1, c2⟩, t1, t2⟩ := h
  obtain ⟨⟨m1, m2⟩, ⟨m3, m4⟩, ⟨m5, m6⟩, ⟨m7, m8⟩, m9, ma⟩ := hm
  exact ⟨n, a, s, c, f, g, rn, rc, e, ⟨h1.get (by decide) m1 n1, h2.get (by decide) m2 n2⟩, ⟨h1.get (by decide) m5 a1, h2.get (by decide) m6 a2⟩, ⟨h1.get (by decide) m7 s1, h2.get (by decide) m8 s2⟩, ⟨h1.get (by decide) m9 c1, h2.get (by decide) ma c2⟩, (h1 4 0 (by decide) m3).trans t1, (h2 14 0 (by decide) m4).trans t2⟩
theorem RelM.toT (h : RelM G wx wm) : RelT wx wm := by
  obtain ⟨n, a, s, c, f, g, rn, rc, e, ⟨n1, n2⟩, -⟩ := h
  exact ⟨n, rn.1, rn.2, n1, n2⟩
/-- another number of signs -/
theorem RelM.len (h : RelM G wx wm) (h1 : FX m 109 wx wx') (h2 : FX m' 47 wm wm') (hm : mT m m' ∧ mC m m') {q : Int32} (q0 : 0 ≤ q.toInt) (q1 : q.toInt ≤ 80) (e1 : fget wx' 3 1 = some (.int q)) (e2 : fget wm' 0 19 = some (.int q)) : RelM G wx' wm' := by
  obtain ⟨n, a, s, c, f, g, rn, rc, e, ⟨n1, n2⟩, ⟨a1, a2⟩, ⟨s1, s2⟩, ⟨c1, c2⟩, t1, t2⟩ := h
  obtain ⟨⟨m3, m4⟩, ⟨m5, m6⟩, ⟨m7, m8⟩, m9, ma⟩ := hm
  exact ⟨q, a, s, c, f, g, ⟨q0, q1⟩, rc, e, ⟨e1, e2⟩, ⟨h1.get (by decide) m5 a1, h2.get (by decide) m6 a2⟩, ⟨h1.get (by decide) m7 s1, h2.get (by decide) m8 s2⟩, ⟨h1.get (by decide) m9 c1, h2.get (by decide) ma c2⟩, (h1 4 0 (by decide) m3).trans t1, (h2 14 0 (by decide) m4).trans t2⟩
/-- four signs more -/
theorem RelM.sgn (h : RelM G wx wm) (h1 : FX m 109 wx wx') (h2 : FX m' 47 wm wm') (hm : mC m m') {n v v1 v2 : Int32} {f g : Nat → Int32} (hn : 0 ≤ n.toInt ∧ n.toInt ≤ 76) (e : TE80 f g) (A : SgnE G 3 1 4 n f v (some (.int v1)) wx') (B : SgnE G 0 19 14 n g v (some (.int v2)) wm') : v1 = v2 ∧ RelM G wx' wm' := by
  obtain ⟨_, a, s, c, _, _, _, rc, _, _, ⟨a1, a2⟩, ⟨s1, s2⟩, ⟨c1, c2⟩, _, _⟩ := h
  obtain ⟨⟨m5, m6⟩, ⟨m7, m8⟩, m9, ma⟩ := hm
  obtain ⟨q1, f1, r1, x1, y1, z1, u1⟩ := A
  obtain ⟨q2, f2, r2, x2, y2, z2, u2⟩ := B
  have r1 : v1 = q1 := Value.int.inj (Option.some.inj r1)
  have r2 : v2 = q2 := Value.int.inj (Option.some.inj r2)
  have e12 : q1 = q2 := Int32.toInt_inj.mp (by omega)
  subst e12
  refine ⟨r1.trans r2.symm, q1, a, s, c, f1, f2, by omega, rc, fun k hk => ?_, ⟨y1, y2⟩, ⟨h1.get (by decide) m5 a1, h2.get (by decide) m6 a2⟩, ⟨h1.get (by decide) m7 s1, h2.get (by decide) m8 s2⟩, ⟨h1.get (by decide) m9 c1, h2.get (by decide) ma c2⟩, z1, z2⟩
  rw [u1 k hk, u2 k hk]
  exact cg_w4 e _ _ k hk
/-- what mill leaves -/
theorem RelM.mil (h1 : FX m 109 wx wx') (h2 : FX m' 47 wm wm') (hm : mT m m') {n a s c v1 v2 : Int32} {f g : Nat → Int32} (e : TE80 f g) (t1 : cget wx 4 0 = some (.inr (cyI G, 80, .inl f))) (t2 : cget wm 14 0 = some (.inr (cyI G, 80, .inl g))) (A : MilE 3 1 5 0 12 0 18 0 n f a s c (some (.int v1)) wx') (B : MilE 0 19 0 3 0 10 0 16 n g a s c (some (.int v2)) wm') : v1 = v2 ∧ RelM G wx' wm' := by
  obtain ⟨q1, a1, s1, c1, r1, C1, b1, x1, x2, x3, x4⟩ := A
  obtain ⟨q2, a2, s2, c2, r2, C2, b2, y1, y2, y3, y4⟩ := B
  have r1 : v1 = q1 := Value.int.inj (Option.some.inj r1)
  have r2 : v2 = q2 := Value.int.inj (Option.some.inj r2)
  rw [cg_run0 e (lim60 n)] at C1
  obtain ⟨d1, d2, d3, d4⟩ := C1.same C2
  have d1 := Int32.toInt_inj.mp d1
  have d2 := Int32.toInt_inj.mp d2
  have d3 := Int32.toInt_inj.mp d3
  have d4 := Int32.toInt_inj.mp d4
  subst d1
  subst d2
  subst d3
  subst d4
  exact ⟨r1.trans r2.symm, 0, a1, s1, c1, f, g, by decide, b1, e, ⟨x1, y1⟩, ⟨x2, y2⟩, ⟨x3, y3⟩, ⟨x4, y4⟩, (h1 4 0 (by decide) hm.1).trans t1, (h2 14 0 (by decide) hm.2).trans t2⟩
end RLM
