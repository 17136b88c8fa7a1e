/-! the relation of p7, p8, p35, p39, p40 -/
theorem MilE.ge {kn jn kh jh ks js kc jc : Nat} {n : Int32} {f : Nat → Int32} {h s c : Int32} {r : Option Value} {w1 : va_W} (H : MilE kn jn kh jh ks js kc jc n f h s c r w1) {h3 : Int32} (e : fget w1 kh jh = some (.int h3)) : h.toInt ≤ h3.toInt := by
  obtain ⟨v, h2, s2, c2, -, C, -, -, f2, -⟩ := H
  obtain rfl := some_int (e.symm.trans f2)
  exact C.ge
def RelN (G : KG) (wx wm : va_W) : Prop := RelM G wx wm ∧ RelAr G wx wm ∧ RelD G wx wm ∧ RelC G wx wm
theorem RelN.of {G : KG} {wx wm : va_W} (a : RelM G wx wm) (b : RelAr G wx wm) (c : RelD G wx wm) (d : RelC G wx wm) : RelN G wx wm := ⟨a, b, c, d⟩
theorem RelN.m {G : KG} {wx wm : va_W} (h : RelN G wx wm) : RelM G wx wm := And.left h
theorem RelN.a {G : KG} {wx wm : va_W} (h : RelN G wx wm) : RelAr G wx wm := And.left (And.right h)
theorem RelN.d {G : KG} {wx wm : va_W} (h : RelN G wx wm) : RelD G wx wm := And.left (And.right (And.right h))
theorem RelN.c {G : KG} {wx wm : va_W} (h : RelN G wx wm) : RelC G wx wm := And.right (And.right (And.right h))
