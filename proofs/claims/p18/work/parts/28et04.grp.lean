/-! groups of the relation: what is told, DEEP, CROSS -/
def AE (G : KG) (wx wm : va_W) (kx km n : Nat) (H : Int) : Prop := ∃ q g : Nat → Int32, cget wx kx 0 = some (.inr (cyI G, n, .inl q)) ∧ cget wm km 0 = some (.inr (cyI G, n, .inl g)) ∧ ∀ k : Nat, k < n → (k : Int) < H → q k = g k
theorem AE.keep {G : KG} {wx wm wx' wm' : va_W} {m m' : List (Nat × Nat)} {kx km n : Nat} {H : Int} (h : AE G wx wm kx km n H) (h1 : FX m 109 wx wx') (h2 : FX m' 47 wm wm') (hk : kx < 109 ∧ km < 47) (hm : mkq m kx 0 = false ∧ mkq m' km 0 = false) : AE G wx' wm' kx km n H := by
  obtain ⟨q, g, a, b, c⟩ := h
  exact ⟨q, g, (h1 kx 0 hk.1 hm.1).trans a, (h2 km 0 hk.2 hm.2).trans b, c⟩
/-- an array after the mill: below c as it was, from c to H by the places of the lines -/
def AFc (G : KG) (w1 : va_W) (k n : Nat) (val : Int32 → Int32) (g0 : Nat → Int32) (c H : Int) (a : Nat → Int32) : Prop := ∃ q : Nat → Int32, cget w1 k 0 = some (.inr (cyI G, n, .inl q)) ∧ ∀ j : Nat, j < n → ((j : Int) < c → q j = g0 j) ∧ (c ≤ (j : Int) → (j : Int) < H → q j = val (a j))
theorem AFc.of {G : KG} {w1 : va_W} {k n : Nat} {val : Int32 → Int32} {g0 g q a : Nat → Int32} {c H : Int} (A : AF val g0 g c H a) (hq : cget w1 k 0 = some (.inr (cyI G, n, .inl q))) (hs : ∀ j, j < n → q j = g j) : AFc G w1 k n val g0 c H a := ⟨q, hq, fun j hj => ⟨fun h => (hs j hj).trans (A.1 j h), fun h1 h2 => (hs j hj).trans (A.2 j h1 h2)⟩⟩
theorem AFc.same {G : KG} {wx wm : va_W} {kx km n : Nat} {val : Int32 → Int32} {f0 g0 a : Nat → Int32} {c H : Int} (A : AFc G wx kx n val f0 c H a) (B : AFc G wm km n val g0 c H a) (E : ∀ k : Nat, k < n → (k : Int) < c → f0 k = g0 k) : AE G wx wm kx km n H := by
  obtain ⟨q, q1, q2⟩ := A
  obtain ⟨g, g1, g2⟩ := B
  refine ⟨q, g, q1, g1, fun k hk hH => ?_⟩
  by_cases hc : (k : Int) < c
  · rw [(q2 k hk).1 hc, (g2 k hk).1 hc, E k hk hc]
  · rw [(q2 k hk).2 (by omega) hH, (g2 k hk).2 (by omega) hH]
theorem AFc.app {G : KG} {w1 wc : va_W} {k n : Nat} {val : Int32 → Int32} {g0 a : Nat → Int32} {c H : Int} (hk : k < w1.length) (A : AFc G w1 k n val g0 c H a) : AFc G (w1 ++ wc) k n val g0 c H a := by
  obtain ⟨q, q1, q2⟩ := A
  exact ⟨q, by rw [cget_app hk]; exact q1, q2⟩
/-- what mill leaves in the arrays; the counts too -/
def MilA (G : KG) (kh jh ks js kc jc kp kr kf ko kw : Nat) (f : Nat → Int32) (L : Int32) (h s c : Int32) (p0 r0 f0 o0 w0 : Nat → Int32) (w1 : va_W) : Prop :=
  ∃ h2 s2 c2 : Int32, (fget w1 kh jh = some (.int h2) ∧ fget w1 ks js = some (.int s2) ∧ fget w1 kc jc = some (.int c2)) ∧
    AFc G w1 kp 16 (fun p => (hA f L p).2.2) p0 h.toInt h2.toInt (run0 f L h.toInt s.toInt c.toInt).2.2.2.2.2.2.1 ∧
    AFc G w1 kr 16 (fun p => (hG f L p).2.2) r0 h.toInt h2.toInt (run0 f L h.toInt s.toInt c.toInt).2.2.2.2.2.2.1 ∧
    AFc G w1 kf 6 (fun p => (pA f L p).2.2) f0 s.toInt s2.toInt (run0 f L h.toInt s.toInt c.toInt).2.2.2.2.2.2.2.1 ∧
    AFc G w1 ko 6 (fun p => (pC f L p).2.2) o0 s.toInt s2.toInt (run0 f L h.toInt s.toInt c.toInt).2.2.2.2.2.2.2.1 ∧
    AFc G w1 kw 8 (fun p => (cA f L p).2.2) w0 c.toInt c2.toInt (run0 f L h.toInt s.toInt c.toInt).2.2.2.2.2.2.2.2
theorem MilA.app {G : KG} {kh jh ks js kc jc kp kr kf ko kw : Nat} {f : Nat → Int32} {L h s c : Int32} {p0 r0 f0 o0 w0 : Nat → Int32} {w1 wc : va_W} (hk : (kh < w1.length ∧ ks < w1.length ∧ kc < w1.length) ∧ kp < w1.length ∧ kr < w1.length ∧ kf < w1.length ∧ ko < w1.length ∧ kw < w1.length) (A : MilA G kh jh ks js kc jc kp kr kf ko kw f L h s c p0 r0 f0 o0 w0 w1) : MilA G kh jh ks js kc jc kp kr kf ko kw f L h s c p0 r0 f0 o0 w0 (w1 ++ wc) := by
  obtain ⟨h2, s2, c2, ⟨e1, e2, e3⟩, a1, a2, a3, a4, a5⟩ := A
  exact ⟨h2, s2, c2, ⟨by rw [fget_app hk.1.1]; exact e1, by rw [fget_app hk.1.2.1]; exact e2, by rw [fget_app hk.1.2.2]; exact e3⟩, a1.app hk.2.1, a2.app hk.2.2.1, a3.app hk.2.2.2.1, a4.app hk.2.2.2.2.1, a5.app hk.2.2.2.2.2⟩
/-- what mill leaves of DEEP, in the reference -/
def MilD (G : KG) (kh jh kd : Nat) (f : Nat → Int32) (L : Int32) (h s c : Int32) (d0 : Nat → Int32) (w1 : va_W) : Prop :=
  ∃ h2 : Int32, fget w1 kh jh = some (.int h2) ∧ AFc G w1 kd 16 (fun _ => 0) d0 h.toInt h2.toInt (run0 f L h.toInt s.toInt c.toInt).2.2.2.2.2.2.1
def RelAr (G : KG) (wx wm : va_W) : Prop := ∃ h s c : Int32, (fget wx 5 0 = some (.int h) ∧ fget wx 12 0 = some (.int s) ∧ fget wx 18 0 = some (.int c)) ∧ AE G wx wm 6 2 16 h.toInt ∧ AE G wx wm 9 5 16 h.toInt ∧ AE G wx wm 13 8 6 s.toInt ∧ AE G wx wm 14 9 6 s.toInt ∧ AE G wx wm 19 13 8 c.toInt
def RelD (G : KG) (wx wm : va_W) : Prop := ∃ h : Int32, fget wx 5 0 = some (.int h) ∧ AE G wx wm 11 7 16 h.toInt ∧ ∃ q : Nat → Int32, cget wx 11 0 = some (.inr (cyI G, 16, .inl q)) ∧ ∀ k : Nat, k < 16 → h.toInt ≤ (k : Int) → q k = 0
section GRP
variable {G : KG} {wx wm wx' wm' : va_W} {m m' : List (Nat × Nat)}
theorem RelAr.keep (h : RelAr G wx wm) (h1 : FX m 109 wx wx') (h2 : FX m' 47 wm wm') (hm : (mkq m 5 0 = false ∧ mkq m 12 0 = false ∧ mkq m 18 0 = false) ∧ (mkq m 6 0 = false ∧ mkq m' 2 0 = false) ∧ (mkq m 9 0 = false ∧ mkq m' 5 0 = false) ∧ (mkq m 13 0 = false ∧ mkq m' 8 0 = false) ∧ (mkq m 14 0 = false ∧ mkq m' 9 0 = false) ∧ (mkq m 19 0 = false ∧ mkq m' 13 0 = false)) : RelAr G wx' wm' := by
  obtain ⟨a, s, c, ⟨e1, e2, e3⟩, a1, a2, a3, a4, a5⟩ := h
  obtain ⟨⟨m1, m2, m3⟩, m4, m5, m6, m7, m8⟩ := hm
  exact ⟨a, s, c, ⟨h1.get (by decide) m1 e1, h1.get (by decide) m2 e2, h1.get (by decide) m3 e3⟩, a1.keep h1 h2 (by decide) m4, a2.keep h1 h2 (by decide) m5, a3.keep h1 h2 (by decide) m6, a4.keep h1 h2 (by decide) m7, a5.keep h1 h2 (by decide) m8⟩
theorem RelD.keep (h : RelD G wx wm) (h1 : FX m 109 wx wx') (h2 : FX m' 47 wm wm') (hm : mkq m 5 0 = false ∧ mkq m 11 0 = false ∧ mkq m' 7 0 = false) : RelD G wx' wm' := by
  obtain ⟨a, e1, a1, q, a2, a3⟩ := h
  exact ⟨a, h1.get (by decide) hm.1 e1, a1.keep h1 h2 (by decide) hm.2, q, (h1 11 0 (by decide) hm.2.1).trans a2, a3⟩
theorem RelAr.mil (hM : RelM G wx' wm') {f g p0 r0 f0 o0 w0 p9 r9 f9 o9 w9 : Nat → Int32} {L h s c : Int32} (hL : L.toInt ≤ 60) (e : TE80 f g) (A : MilA G 5 0 12 0 18 0 6 9 13 14 19 f L h s c p0 r0 f0 o0 w0 wx') (B : MilA G 0 3 0 10 0 16 2 5 8 9 13 g L h s c p9 r9 f9 o9 w9 wm') (E : (∀ k : Nat, k < 16 → (k : Int) < h.toInt → p0 k = p9 k) ∧ (∀ k : Nat, k < 16 → (k : Int) < h.toInt → r0 k = r9 k) ∧ (∀ k : Nat, k < 6 → (k : Int) < s.toInt → f0 k = f9 k) ∧ (∀ k : Nat, k < 6 → (k : Int) < s.toInt → o0 k = o9 k) ∧ (∀ k : Nat, k < 8 → (k : Int) < c.toInt → w0 k = w9 k)) : RelAr G wx' wm' := by
  obtain ⟨_, a2, s2, c2, _, _, _, _, _, _, ⟨x1, y1⟩, ⟨x2, y2⟩, ⟨x3, y3⟩, _⟩ := hM
  obtain ⟨u1, u2, u3, ⟨z1, z2, z3⟩, b1, b2, b3, b4, b5⟩ := A
  obtain ⟨v1, v2, v3, ⟨t1, t2, t3⟩, d1, d2, d3, d4, d5⟩ := B
  obtain rfl := some_int (x1.symm.trans z1)
  obtain rfl := some_int (x2.symm.trans z2)
  obtain rfl := some_int (x3.symm.trans z3)
  obtain rfl := some_int (y1.symm.trans t1)
  obtain rfl := some_int (y2.symm.trans t2)
  obtain rfl := some_int (y3.symm.trans t3)
  rw [cg_run0 e hL, cg_hA e hL] at b1
  rw [cg_run0 e hL, cg_hG e hL] at b2
  rw [cg_run0 e hL, cg_pA e hL] at b3
  rw [cg_run0 e hL, cg_pC e hL] at b4
  rw [cg_run0 e hL, cg_cA e hL] at b5
  exact ⟨_, _, _, ⟨z1, z2, z3⟩, b1.same d1 E.1, b2.same d2 E.2.1, b3.same d3 E.2.2.1, b4.same d4 E.2.2.2.1, b5.same d5 E.2.2.2.2⟩
theorem dl_ge {w : Int} {f : Nat → Int32} {p : Int32} : 0 ≤ dl w f p := by unfold dl; split <;> omega
theorem run_ge {f : Nat → Int32} {L : Int32} : ∀ (n : Nat) (p : Int32) (H S C k : Int) (a b d : Nat → Int32), H ≤ (run f L n p H S C k a b d).2.2.2.1
  | 0, _, _, _, _, _, _, _, _ => Int.le_refl _
  | n + 1, p, H, S, C, k, a, b, d => by
    show H ≤ (if (lin f L p H S C).1 = true then (if (tk f L (lin f L p H S C).2 59).1 = true then _ else _) else _ : RR9).2.2.2.1
    have h0 : 0 ≤ dl 104 f p := dl_ge
    by_cases hy : (lin f L p H S C).1 = true
    · rw [if_pos hy]
      by_cases ht : (tk f L (lin f L p H S C).2 59).1 = true
      · rw [if_pos ht]
        exact Int.le_trans (by omega) (run_ge n _ _ _ _ _ _ _ _)
      · rw [if_neg ht]
        show H ≤ H + dl 104 f p
        omega
    · rw [if_neg hy]
      exact Int.le_refl _
theorem CN.ge {N : Int32} {f : Nat → Int32} {L : Int32} {v h s c h2 s2 c2 : Int} (A : CN N (run0 f L h s c) v h s c h2 s2 c2) : h ≤ h2 := by
  obtain ⟨-, -, -, a4, a5⟩ := A
  have g := run_ge (f := f) (L := L) 60 0 h s c 0 zf zf zf
  have g : h ≤ (run0 f L h s c).2.2.2.1 := g
  by_cases o : okR N (run0 f L h s c)
  · have e := a4 o
    omega
  · have e := a5 o
    omega
theorem RelD.mil (hM : RelM G wx' wm') (hD : RelD G wx wm) (h1 : FX m 109 wx wx') (hm : mkq m 11 0 = false) {g d9 : Nat → Int32} {L h s c : Int32} (he : fget wx 5 0 = some (.int h)) (hd : cget wm 7 0 = some (.inr (cyI G, 16, .inl d9))) (B : MilD G 0 3 7 g L h s c d9 wm') (hge : ∀ h2 : Int32, fget wx' 5 0 = some (.int h2) → h.toInt ≤ h2.toInt) : RelD G wx' wm' := by
  obtain ⟨_, a2, s2, c2, _, _, _, _, _, _, ⟨x1, y1⟩, _⟩ := hM
  obtain ⟨v1, t1, q, q1, q2⟩ := B
  obtain rfl := some_int (y1.symm.trans t1)
  obtain ⟨h0, e0, ⟨d0, g0, k1, k2, k3⟩, q3, k4, k5⟩ := hD
  obtain rfl := some_int (he.symm.trans e0)
  obtain rfl := arrinj (hd.symm.trans k2)
  obtain rfl := arrinj (k1.symm.trans k4)
  have hx := (h1 11 0 (by decide) hm).trans k1
  have hg := hge _ x1
  refine ⟨_, x1, ⟨d0, q, hx, q1, fun k hk hH => ?_⟩, d0, hx, fun k hk hH => k5 k hk (by omega)⟩
  by_cases hc : (k : Int) < h.toInt
  · rw [k3 k hk hc, (q2 k hk).1 hc]
  · rw [k5 k hk (by omega), (q2 k hk).2 (by omega) hH]
end GRP
