/-! the mill: what holds at the head of the loop of lines -/
abbrev RR9 := Bool × Int32 × Int × Int × Int × Int × (Nat → Int32) × (Nat → Int32) × (Nat → Int32)
def zf : Nat → Int32 := fun _ => 0
def run0 (f : Nat → Int32) (L : Int32) (h s c : Int) : RR9 := run f L 60 0 h s c 0 zf zf zf
section MDL2
variable {f : Nat → Int32} {L p q : Int32} {h s c H S C j : Int} {a b d : Nat → Int32}
theorem tk_no {x : Int32} (h : ¬ (tk f L p x).1 = true) : (tk f L p x).2 = p := by
  unfold tk at h ⊢
  split
  · next g => rw [if_pos g] at h; exact absurd rfl h
  · rfl
theorem tk_far {x : Int32} (h : ¬ p.toInt < L.toInt) : ¬ (tk f L p x).1 = true := by
  unfold tk
  rw [if_neg (fun g => h g.1)]
  exact Bool.false_ne_true
theorem tk_yes {x : Int32} (h : (tk f L p x).1 = true) : (tk f L p x).2 = p + 1 ∧ p.toInt < L.toInt := by
  unfold tk at h ⊢
  split
  · next g => exact ⟨rfl, g.1⟩
  · next g => rw [if_neg g] at h; cases h
theorem lin_lt (h : (lin f L p H S C).1 = true) : p.toInt < L.toInt := by
  apply Classical.byContradiction
  intro g
  rw [lin_0 (fun q => absurd q g)] at h
  cases h
theorem lin_room (h : (lin f L p H S C).1 = true) (h1 : H ≤ 16) (h2 : S ≤ 6) (h3 : C ≤ 8) : (0 ≤ dl 104 f p ∧ dl 104 f p ≤ 1) ∧ (0 ≤ dl 115 f p ∧ dl 115 f p ≤ 1) ∧ (0 ≤ dl 99 f p ∧ dl 99 f p ≤ 1) ∧ H + dl 104 f p ≤ 16 ∧ S + dl 115 f p ≤ 6 ∧ C + dl 99 f p ≤ 8 := by
  have hp := lin_lt h
  have d1 : 0 ≤ dl 104 f p ∧ dl 104 f p ≤ 1 := by unfold dl; split <;> omega
  have d2 : 0 ≤ dl 115 f p ∧ dl 115 f p ≤ 1 := by unfold dl; split <;> omega
  have d3 : 0 ≤ dl 99 f p ∧ dl 99 f p ≤ 1 := by unfold dl; split <;> omega
  refine ⟨d1, d2, d3, ?_, ?_, ?_⟩
  · by_cases e : (f p.toNatClampNeg).toInt = 104
    · rw [lin_h hp e] at h
      by_cases g : 16 ≤ H
      · rw [hol_0 g] at h
        cases h
      · omega
    · rw [dl_0 e]; omega
  · by_cases e : (f p.toNatClampNeg).toInt = 115
    · rw [lin_s hp e] at h
      by_cases g : 6 ≤ S
      · rw [spd_0 g] at h
        cases h
      · omega
    · rw [dl_0 e]; omega
  · by_cases e : (f p.toNatClampNeg).toInt = 99
    · rw [lin_c hp e] at h
      by_cases g : 8 ≤ C
      · rw [cog_0 g] at h
        cases h
      · omega
    · rw [dl_0 e]; omega
/-- at the head: j lines were told -/
def MI (f : Nat → Int32) (L : Int32) (h s c : Int) (j : Int) (p : Int32) (H S C : Int) (a b d : Nat → Int32) : Prop :=
  0 ≤ j ∧ j ≤ p.toInt ∧ p.toInt ≤ 60 ∧ (h ≤ H ∧ H ≤ 16) ∧ (s ≤ S ∧ S ≤ 6) ∧ (c ≤ C ∧ C ≤ 8) ∧ run f L (60 - j).toNat p H S C j a b d = run0 f L h s c
theorem MI.zero (h1 : h ≤ 16) (h2 : s ≤ 6) (h3 : c ≤ 8) : MI f L h s c 0 0 h s c zf zf zf := ⟨by decide, by decide, by decide, ⟨Int.le_refl _, h1⟩, ⟨Int.le_refl _, h2⟩, ⟨Int.le_refl _, h3⟩, rfl⟩
theorem MI.bad (M : MI f L h s c j p H S C a b d) (hL : L.toInt ≤ 60) (hn : ¬ (lin f L p H S C).1 = true) : run0 f L h s c = (false, (lin f L p H S C).2, j, H, S, C, a, b, d) := by
  obtain ⟨j0, jp, p6, -, -, -, e⟩ := M
  rw [← e]
  by_cases g : j < 60
  · obtain ⟨n, hn2⟩ : ∃ n, (60 - j).toNat = n + 1 := ⟨(60 - j).toNat - 1, by omega⟩
    rw [hn2]
    show (if (lin f L p H S C).1 = true then _ else _) = _
    rw [if_neg hn]
  · have e2 : (60 - j).toNat = 0 := by omega
    rw [e2, lin_0 (fun q => absurd q (by omega))]
    rfl
theorem MI.late (M : MI f L h s c j p H S C a b d) (g : 60 ≤ j) : run0 f L h s c = (false, p, j, H, S, C, a, b, d) := by
  obtain ⟨j0, jp, p6, -, -, -, e⟩ := M
  rw [← e]
  have e2 : (60 - j).toNat = 0 := by omega
  rw [e2]
  rfl
theorem MI.last (M : MI f L h s c j p H S C a b d) (hL : L.toInt ≤ 60) (hy : (lin f L p H S C).1 = true) (hn : ¬ (tk f L (lin f L p H S C).2 59).1 = true) : run0 f L h s c = (true, (lin f L p H S C).2, j + 1, H + dl 104 f p, S + dl 115 f p, C + dl 99 f p, nx 104 f p H a, nx 115 f p S b, nx 99 f p C d) := by
  obtain ⟨j0, jp, p6, -, -, -, e⟩ := M
  have hp := lin_lt hy
  obtain ⟨n, hn2⟩ : ∃ n, (60 - j).toNat = n + 1 := ⟨(60 - j).toNat - 1, by omega⟩
  rw [← e, hn2]
  show (if (lin f L p H S C).1 = true then (if (tk f L (lin f L p H S C).2 59).1 = true then _ else _) else _) = _
  rw [if_pos hy, if_neg hn, tk_no hn]
theorem MI.step (M : MI f L h s c j p H S C a b d) (hL : L.toInt ≤ 60) (hy : (lin f L p H S C).1 = true) (hq : p.toInt ≤ (lin f L p H S C).2.toInt ∧ (lin f L p H S C).2.toInt ≤ 60) (ht : (tk f L (lin f L p H S C).2 59).1 = true) : MI f L h s c (j + 1) (tk f L (lin f L p H S C).2 59).2 (H + dl 104 f p) (S + dl 115 f p) (C + dl 99 f p) (nx 104 f p H a) (nx 115 f p S b) (nx 99 f p C d) := by
  obtain ⟨j0, jp, p6, h1, h2, h3, e⟩ := M
  have hp := lin_lt hy
  obtain ⟨t1, t2⟩ := tk_yes ht
  have r := lin_room hy h1.2 h2.2 h3.2
  have eq : ((lin f L p H S C).2 + 1).toInt = (lin f L p H S C).2.toInt + 1 := tI_add rfl (show (1 : Int32).toInt = 1 from by decide) (by omega)
  refine ⟨by omega, by rw [t1]; omega, by rw [t1]; omega, by omega, by omega, by omega, ?_⟩
  obtain ⟨n, hn2⟩ : ∃ n, (60 - j).toNat = n + 1 := ⟨(60 - j).toNat - 1, by omega⟩
  have e3 : (60 - (j + 1)).toNat = n := by omega
  rw [← e, hn2, e3]
  show _ = (if (lin f L p H S C).1 = true then (if (tk f L (lin f L p H S C).2 59).1 = true then _ else _) else _)
  rw [if_pos hy, if_pos ht]
/-- an array: before c as it was, from c to H as the places say -/
def AF (val : Int32 → Int32) (g0 g : Nat → Int32) (c H : Int) (a : Nat → Int32) : Prop := (∀ k : Nat, (k : Int) < c → g k = g0 k) ∧ (∀ k : Nat, c ≤ (k : Int) → (k : Int) < H → g k = val (a k))
variable {val : Int32 → Int32} {g0 g g2 : Nat → Int32} {n : Nat} {w : Int}
theorem AF.zero : AF val g0 g0 c c a := ⟨fun _ _ => rfl, fun k h1 h2 => absurd h1 (by omega)⟩
theorem AF.cut (h : AF val g0 g c H a) : AF val g0 g c c b := ⟨h.1, fun k h1 h2 => absurd h1 (by omega)⟩
theorem AF.off (h : AF val g0 g c H a) (hc : c ≤ H) (hs : (n : Int) = H) (hO : ∀ k, k ≠ n → g2 k = g k) : AF val g0 g2 c H a := ⟨fun k hk => (hO k (by omega)).trans (h.1 k hk), fun k h1 h2 => (hO k (by omega)).trans (h.2 k h1 h2)⟩
theorem AF.on (h : AF val g0 g c H a) (hc : c ≤ H) (hs : (n : Int) = H) (hO : ∀ k, k ≠ n → g2 k = g k) (hS : (f p.toNatClampNeg).toInt = w → g2 n = val p) : AF val g0 g2 c (H + dl w f p) (nx w f p H a) := by
  by_cases e : (f p.toNatClampNeg).toInt = w
  · rw [dl_1 e]
    have ea : nx w f p H a = upd a H.toNat p := if_pos e
    have es : H.toNat = n := by omega
    rw [ea, es]
    refine ⟨fun k hk => (hO k (by omega)).trans (h.1 k hk), fun k h1 h2 => ?_⟩
    by_cases ek : k = n
    · subst ek
      rw [hS e, upd_at]
    · rw [hO k ek, upd_off ek]
      exact h.2 k h1 (by omega)
  · have ea : nx w f p H a = a := if_neg e
    rw [dl_0 e, ea, Int.add_zero]
    exact h.off hc hs hO
/-- what mill answers, and the counts afterwards -/
def okR (n : Int32) (R : RR9) : Prop := R.1 = true ∧ R.2.1.toInt = n.toInt
def CN (n : Int32) (R : RR9) (v h s c h2 s2 c2 : Int) : Prop :=
  (n.toInt ≤ 0 → v = 0) ∧ (0 < n.toInt → okR n R → v = R.2.2.1) ∧ (0 < n.toInt → ¬ okR n R → v = -1 - R.2.1.toInt) ∧ (okR n R → h2 = R.2.2.2.1 ∧ s2 = R.2.2.2.2.1 ∧ c2 = R.2.2.2.2.2.1) ∧ (¬ okR n R → h2 = h ∧ s2 = s ∧ c2 = c)
variable {N : Int32} {R : RR9} {v k : Int} {t : Bool}
theorem CN.zero (h0 : N.toInt = 0) (hL : L.toInt ≤ 0) : CN N (run0 f L h s c) 0 h s c h s c := by
  have e : (run0 f L h s c).1 = false := by
    show (if (lin f L 0 h s c).1 = true then _ else _ : RR9).1 = _
    have z0 : (0 : Int32).toInt = 0 := by decide
    rw [lin_0 (f := f) (L := L) (p := 0) (fun q => absurd q (by omega))]
    rfl
  have n0 : ¬ okR N (run0 f L h s c) := fun g => by rw [g.1] at e; cases e
  exact ⟨fun _ => rfl, fun q => absurd q (by omega), fun q => absurd q (by omega), fun g => absurd g n0, fun _ => ⟨rfl, rfl, rfl⟩⟩
theorem CN.bad (hR : R = (false, q, k, H, S, C, a, b, d)) (h0 : 0 < N.toInt) (hv : v = -1 - q.toInt) : CN N R v h s c h s c := by
  subst hR
  have n0 : ¬ okR N (false, q, k, H, S, C, a, b, d) := fun g => by cases g.1
  exact ⟨fun g => absurd g (by omega), fun _ g => absurd g n0, fun _ _ => hv, fun g => absurd g n0, fun _ => ⟨rfl, rfl, rfl⟩⟩
theorem CN.far (hR : R = (t, q, k, H, S, C, a, b, d)) (h0 : 0 < N.toInt) (hq : q.toInt ≠ N.toInt) (hv : v = -1 - q.toInt) : CN N R v h s c h s c := by
  subst hR
  have n0 : ¬ okR N (t, q, k, H, S, C, a, b, d) := fun g => hq g.2
  exact ⟨fun g => absurd g (by omega), fun _ g => absurd g n0, fun _ _ => hv, fun g => absurd g n0, fun _ => ⟨rfl, rfl, rfl⟩⟩
theorem CN.good (hR : R = (true, q, k, H, S, C, a, b, d)) (h0 : 0 < N.toInt) (hq : q.toInt = N.toInt) (hv : v = k) : CN N R v h s c H S C := by
  subst hR
  have y0 : okR N (true, q, k, H, S, C, a, b, d) := ⟨rfl, hq⟩
  exact ⟨fun g => absurd g (by omega), fun _ _ => hv, fun _ g => absurd y0 g, fun _ => ⟨rfl, rfl, rfl⟩, fun g => absurd y0 g⟩
/-- one answer on both sides -/
theorem CN.same {v1 v2 h1 s1 c1 h2 s2 c2 : Int} (A : CN N R v1 h s c h1 s1 c1) (B : CN N R v2 h s c h2 s2 c2) : v1 = v2 ∧ h1 = h2 ∧ s1 = s2 ∧ c1 = c2 := by
  obtain ⟨a1, a2, a3, a4, a5⟩ := A
  obtain ⟨b1, b2, b3, b4, b5⟩ := B
  by_cases g : okR N R
  · have e1 := a4 g
    have e2 := b4 g
    refine ⟨?_, by omega, by omega, by omega⟩
    by_cases z : N.toInt ≤ 0
    · rw [a1 z, b1 z]
    · rw [a2 (by omega) g, b2 (by omega) g]
  · have e1 := a5 g
    have e2 := b5 g
    refine ⟨?_, by omega, by omega, by omega⟩
    by_cases z : N.toInt ≤ 0
    · rw [a1 z, b1 z]
    · rw [a3 (by omega) g, b3 (by omega) g]
/-- the arrays of what is told -/
def A7 (f : Nat → Int32) (L : Int32) (h s c : Int) (p0 x0 y0 r0 f0 o0 w0 p1 x1 y1 r1 f1 o1 w1 : Nat → Int32) (H S C : Int) (a b d : Nat → Int32) : Prop :=
  AF (fun p => (hA f L p).2.2) p0 p1 h H a ∧ AF (fun p => (hC f L p).2.2) x0 x1 h H a ∧ AF (fun p => (hE f L p).2.2) y0 y1 h H a ∧ AF (fun p => (hG f L p).2.2) r0 r1 h H a ∧ AF (fun p => (pA f L p).2.2) f0 f1 s S b ∧ AF (fun p => (pC f L p).2.2) o0 o1 s S b ∧ AF (fun p => (cA f L p).2.2) w0 w1 c C d
variable {p0 x0 y0 r0 f0 o0 w0 p1 x1 y1 r1 f1 o1 w1 p2 x2 y2 r2 f2 o2 w2 a2 b2 d2 : Nat → Int32} {nh ns nc : Nat}
theorem A7.zero : A7 f L h s c p0 x0 y0 r0 f0 o0 w0 p0 x0 y0 r0 f0 o0 w0 h s c a b d := ⟨AF.zero, AF.zero, AF.zero, AF.zero, AF.zero, AF.zero, AF.zero⟩
theorem A7.cut (A : A7 f L h s c p0 x0 y0 r0 f0 o0 w0 p1 x1 y1 r1 f1 o1 w1 H S C a b d) : A7 f L h s c p0 x0 y0 r0 f0 o0 w0 p1 x1 y1 r1 f1 o1 w1 h s c a2 b2 d2 := by
  obtain ⟨z1, z2, z3, z4, z5, z6, z7⟩ := A
  exact ⟨z1.cut, z2.cut, z3.cut, z4.cut, z5.cut, z6.cut, z7.cut⟩
theorem A7.off (A : A7 f L h s c p0 x0 y0 r0 f0 o0 w0 p1 x1 y1 r1 f1 o1 w1 H S C a b d) (hb : h ≤ H ∧ s ≤ S ∧ c ≤ C) (hn : (nh : Int) = H ∧ (ns : Int) = S ∧ (nc : Int) = C) (hO : (∀ k, k ≠ nh → p2 k = p1 k) ∧ (∀ k, k ≠ nh → x2 k = x1 k) ∧ (∀ k, k ≠ nh → y2 k = y1 k) ∧ (∀ k, k ≠ nh → r2 k = r1 k) ∧ (∀ k, k ≠ ns → f2 k = f1 k) ∧ (∀ k, k ≠ ns → o2 k = o1 k) ∧ (∀ k, k ≠ nc → w2 k = w1 k)) : A7 f L h s c p0 x0 y0 r0 f0 o0 w0 p2 x2 y2 r2 f2 o2 w2 H S C a b d := by
  obtain ⟨z1, z2, z3, z4, z5, z6, z7⟩ := A
  obtain ⟨o1, o2, o3, o4, o5, o6, o7⟩ := hO
  exact ⟨z1.off hb.1 hn.1 o1, z2.off hb.1 hn.1 o2, z3.off hb.1 hn.1 o3, z4.off hb.1 hn.1 o4, z5.off hb.2.1 hn.2.1 o5, z6.off hb.2.1 hn.2.1 o6, z7.off hb.2.2 hn.2.2 o7⟩
theorem A7.on (A : A7 f L h s c p0 x0 y0 r0 f0 o0 w0 p1 x1 y1 r1 f1 o1 w1 H S C a b d) (hb : h ≤ H ∧ s ≤ S ∧ c ≤ C) (hn : (nh : Int) = H ∧ (ns : Int) = S ∧ (nc : Int) = C) (hO : (∀ k, k ≠ nh → p2 k = p1 k) ∧ (∀ k, k ≠ nh → x2 k = x1 k) ∧ (∀ k, k ≠ nh → y2 k = y1 k) ∧ (∀ k, k ≠ nh → r2 k = r1 k) ∧ (∀ k, k ≠ ns → f2 k = f1 k) ∧ (∀ k, k ≠ ns → o2 k = o1 k) ∧ (∀ k, k ≠ nc → w2 k = w1 k))
    (hS : ((f p.toNatClampNeg).toInt = 104 → p2 nh = (hA f L p).2.2) ∧ ((f p.toNatClampNeg).toInt = 104 → x2 nh = (hC f L p).2.2) ∧ ((f p.toNatClampNeg).toInt = 104 → y2 nh = (hE f L p).2.2) ∧ ((f p.toNatClampNeg).toInt = 104 → r2 nh = (hG f L p).2.2) ∧ ((f p.toNatClampNeg).toInt = 115 → f2 ns = (pA f L p).2.2) ∧ ((f p.toNatClampNeg).toInt = 115 → o2 ns = (pC f L p).2.2) ∧ ((f p.toNatClampNeg).toInt = 99 → w2 nc = (cA f L p).2.2)) : A7 f L h s c p0 x0 y0 r0 f0 o0 w0 p2 x2 y2 r2 f2 o2 w2 (H + dl 104 f p) (S + dl 115 f p) (C + dl 99 f p) (nx 104 f p H a) (nx 115 f p S b) (nx 99 f p C d) := by
  obtain ⟨z1, z2, z3, z4, z5, z6, z7⟩ := A
  obtain ⟨o1, o2, o3, o4, o5, o6, o7⟩ := hO
  obtain ⟨s1, s2, s3, s4, s5, s6, s7⟩ := hS
  exact ⟨z1.on hb.1 hn.1 o1 s1, z2.on hb.1 hn.1 o2 s2, z3.on hb.1 hn.1 o3 s3, z4.on hb.1 hn.1 o4 s4, z5.on hb.2.1 hn.2.1 o5 s5, z6.on hb.2.1 hn.2.1 o6 s6, z7.on hb.2.2 hn.2.2 o7 s7⟩
end MDL2
theorem CN.cast {N : Int32} {R : RR9} {v h s c h2 s2 c2 v' h2' s2' c2' : Int} (A : CN N R v h s c h2 s2 c2) (e1 : v' = v) (e2 : h2' = h2) (e3 : s2' = s2) (e4 : c2' = c2) : CN N R v' h s c h2' s2' c2' := by
  subst e1
  subst e2
  subst e3
  subst e4
  exact A
theorem A7.cast {f : Nat → Int32} {L : Int32} {h s c H S C H' S' C' : Int} {p0 x0 y0 r0 f0 o0 w0 p1 x1 y1 r1 f1 o1 w1 a b d : Nat → Int32} (A : A7 f L h s c p0 x0 y0 r0 f0 o0 w0 p1 x1 y1 r1 f1 o1 w1 H S C a b d) (e2 : H' = H) (e3 : S' = S) (e4 : C' = C) : A7 f L h s c p0 x0 y0 r0 f0 o0 w0 p1 x1 y1 r1 f1 o1 w1 H' S' C' a b d := by
  subst e2
  subst e3
  subst e4
  exact A
theorem AF.cast {val : Int32 → Int32} {g0 g a : Nat → Int32} {c H H' : Int} (A : AF val g0 g c H a) (e : H' = H) : AF val g0 g c H' a := by
  subst e
  exact A
theorem MI.cast {f : Nat → Int32} {L : Int32} {h s c j H S C j' H' S' C' : Int} {p p' : Int32} {a b d : Nat → Int32} (M : MI f L h s c j p H S C a b d) (e0 : j' = j) (e1 : p' = p) (e2 : H' = H) (e3 : S' = S) (e4 : C' = C) : MI f L h s c j' p' H' S' C' a b d := by
  subst e0
  subst e1
  subst e2
  subst e3
  subst e4
  exact M
/-- a slot's number -/
theorem slot_of {a b : Int32} {x y : Int} (ha : a.toInt = x) (hb : b.toInt = y) (h : 0 ≤ x ∧ x ≤ 100 ∧ 0 ≤ y ∧ y ≤ 100) : ((a + b).toNatClampNeg : Int) = x + y := by
  have e : (a + b).toInt = x + y := tI_add ha hb (by omega)
  show ((a + b).toInt.toNat : Int) = x + y
  omega
theorem slot_of1 {a : Int32} {x : Int} (ha : a.toInt = x) (h : 0 ≤ x) : (a.toNatClampNeg : Int) = x := by
  show (a.toInt.toNat : Int) = x
  omega
