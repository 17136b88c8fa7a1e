section
theorem some_int {a b : Int32} (h : (some (.int a) : Option Value) = some (.int b)) : a = b := Value.int.inj (Option.some.inj h)
end
section
/-! groups of the relation: what is told, DEEP, CROSS -/
def AE (G : KG) (wx wm : va_W) (kx km n : Nat) (H : Int) : Prop := ∃ q g : Nat → Int32, cget wx kx 0 = some (.inr (cyI G, n, .inl q)) ∧ cget wm km 0 = some (.inr (cyI G, n, .inl g)) ∧ ∀ k : Nat, k < n → (k : Int) < H → q k = g k
theorem AE.keep {G : KG} {wx wm wx' wm' : va_W} {m m' : List (Nat × Nat)} {kx km n : Nat} {H : Int} (h : AE G wx wm kx km n H) (h1 : FX m 109 wx wx') (h2 : FX m' 47 wm wm') (hk : kx < 109 ∧ km < 47) (hm : mkq m kx 0 = false ∧ mkq m' km 0 = false) : AE G wx' wm' kx km n H := by
  obtain ⟨q, g, a, b, c⟩ := h
  exact ⟨q, g, (h1 kx 0 hk.1 hm.1).trans a, (h2 km 0 hk.2 hm.2).trans b, c⟩
/-- an array after the mill: below c as it was, from c to H by the places of the lines -/
def AFc (G : KG) (w1 : va_W) (k n : Nat) (val : Int32 → Int32) (g0 : Nat → Int32) (c H : Int) (a : Nat → Int32) : Prop := ∃ q : Nat → Int32, cget w1 k 0 = some (.inr (cyI G, n, .inl q)) ∧ ∀ j : Nat, j < n → ((j : Int) < c → q j = g0 j) ∧ (c ≤ (j : Int) → (j : Int) < H → q j = val (a j))
theorem AFc.of {G : KG} {w1 : va_W} {k n : Nat} {val : Int32 → Int32} {g0 g q a : Nat → Int32} {c H : Int} (A : AF val g0 g c H a) (hq : cget w1 k 0 = some (.inr (cyI G, n, .inl q))) (hs : ∀ j, j < n → q j = g j) : AFc G w1 k n val g0 c H a := ⟨q, hq, fun j hj => ⟨fun h => (hs j hj).trans (A.1 j h), fun h1 h2 => (hs j hj).trans (A.2 j h1 h2)⟩⟩
theorem AFc.same {G : KG} {wx wm : va_W} {kx km n : Nat} {val : Int32 → Int32} {f0 g0 a : Nat → Int32} {c H : Int} (A : AFc G wx kx n val f0 c H a) (B : AFc G wm km n val g0 c H a) (E : ∀ k : Nat, k < n → (k : Int) < c → f0 k = g0 k) : AE G wx wm kx km n H := by
  obtain ⟨q, q1, q2⟩ := A
  obtain ⟨g, g1, g2⟩ := B
  refine ⟨q, g, q1, g1, fun k hk hH => ?_⟩
  by_cases hc : (k : Int) < c
  · rw [(q2 k hk).1 hc, (g2 k hk).1 hc, E k hk hc]
  · rw [(q2 k hk).2 (by omega) hH, (g2 k hk).2 (by omega) hH]
theorem AFc.app {G : KG} {w1 wc : va_W} {k n : Nat} {val : Int32 → Int32} {g0 a : Nat → Int32} {c H : Int} (hk : k < w1.length) (A : AFc G w1 k n val g0 c H a) : AFc G (w1 ++ wc) k n val g0 c H a := by
  obtain ⟨q, q1, q2⟩ := A
  exact ⟨q, by rw [cget_app hk]; exact q1, q2⟩
/-- what mill leaves in the arrays; the counts too -/
def MilA (G : KG) (kh jh ks js kc jc kp kr kf ko kw : Nat) (f : Nat → Int32) (L : Int32) (h s c : Int32) (p0 r0 f0 o0 w0 : Nat → Int32) (w1 : va_W) : Prop :=
  ∃ h2 s2 c2 : Int32, (fget w1 kh jh = some (.int h2) ∧ fget w1 ks js = some (.int s2) ∧ fget w1 kc jc = some (.int c2)) ∧
    AFc G w1 kp 16 (fun p => (hA f L p).2.2) p0 h.toInt h2.toInt (run0 f L h.toInt s.toInt c.toInt).2.2.2.2.2.2.1 ∧
    AFc G w1 kr 16 (fun p => (hG f L p).2.2) r0 h.toInt h2.toInt (run0 f L h.toInt s.toInt c.toInt).2.2.2.2.2.2.1 ∧
    AFc G w1 kf 6 (fun p => (pA f L p).2.2) f0 s.toInt s2.toInt (run0 f L h.toInt s.toInt c.toInt).2.2.2.2.2.2.2.1 ∧
    AFc G w1 ko 6 (fun p => (pC f L p).2.2) o0 s.toInt s2.toInt (run0 f L h.toInt s.toInt c.toInt).2.2.2.2.2.2.2.1 ∧
    AFc G w1 kw 8 (fun p => (cA f L p).2.2) w0 c.toInt c2.toInt (run0 f L h.toInt s.toInt c.toInt).2.2.2.2.2.2.2.2
theorem MilA.app {G : KG} {kh jh ks js kc jc kp kr kf ko kw : Nat} {f : Nat → Int32} {L h s c : Int32} {p0 r0 f0 o0 w0 : Nat → Int32} {w1 wc : va_W} (hk : (kh < w1.length ∧ ks < w1.length ∧ kc < w1.length) ∧ kp < w1.length ∧ kr < w1.length ∧ kf < w1.length ∧ ko < w1.length ∧ kw < w1.length) (A : MilA G kh jh ks js kc jc kp kr kf ko kw f L h s c p0 r0 f0 o0 w0 w1) : MilA G kh jh ks js kc jc kp kr kf ko kw f L h s c p0 r0 f0 o0 w0 (w1 ++ wc) := by
  obtain ⟨h2, s2, c2, ⟨e1, e2, e3⟩, a1, a2, a3, a4, a5⟩ := A
  exact ⟨h2, s2, c2, ⟨by rw [fget_app hk.1.1]; exact e1, by rw [fget_app hk.1.2.1]; exact e2, by rw [fget_app hk.1.2.2]; exact e3⟩, a1.app hk.2.1, a2.app hk.2.2.1, a3.app hk.2.2.2.1, a4.app hk.2.2.2.2.1, a5.app hk.2.2.2.2.2⟩
/-- what mill leaves of DEEP, in the reference -/
def MilD (G : KG) (kh jh kd : Nat) (f : Nat → Int32) (L : Int32) (h s c : Int32) (d0 : Nat → Int32) (w1 : va_W) : Prop :=
  ∃ h2 : Int32, fget w1 kh jh = some (.int h2) ∧ AFc G w1 kd 16 (fun _ => 0) d0 h.toInt h2.toInt (run0 f L h.toInt s.toInt c.toInt).2.2.2.2.2.2.1
def RelAr (G : KG) (wx wm : va_W) : Prop := ∃ h s c : Int32, (fget wx 5 0 = some (.int h) ∧ fget wx 12 0 = some (.int s) ∧ fget wx 18 0 = some (.int c)) ∧ AE G wx wm 6 2 16 h.toInt ∧ AE G wx wm 9 5 16 h.toInt ∧ AE G wx wm 13 8 6 s.toInt ∧ AE G wx wm 14 9 6 s.toInt ∧ AE G wx wm 19 13 8 c.toInt
def RelD (G : KG) (wx wm : va_W) : Prop := ∃ h : Int32, fget wx 5 0 = some (.int h) ∧ AE G wx wm 11 7 16 h.toInt ∧ ∃ q : Nat → Int32, cget wx 11 0 = some (.inr (cyI G, 16, .inl q)) ∧ ∀ k : Nat, k < 16 → h.toInt ≤ (k : Int) → q k = 0
section GRP
variable {G : KG} {wx wm wx' wm' : va_W} {m m' : List (Nat × Nat)}
theorem RelAr.keep (h : RelAr G wx wm) (h1 : FX m 109 wx wx') (h2 : FX m' 47 wm wm') (hm : (mkq m 5 0 = false ∧ mkq m 12 0 = false ∧ mkq m 18 0 = false) ∧ (mkq m 6 0 = false ∧ mkq m' 2 0 = false) ∧ (mkq m 9 0 = false ∧ mkq m' 5 0 = false) ∧ (mkq m 13 0 = false ∧ mkq m' 8 0 = false) ∧ (mkq m 14 0 = false ∧ mkq m' 9 0 = false) ∧ (mkq m 19 0 = false ∧ mkq m' 13 0 = false)) : RelAr G wx' wm' := by
  obtain ⟨a, s, c, ⟨e1, e2, e3⟩, a1, a2, a3, a4, a5⟩ := h
  obtain ⟨⟨m1, m2, m3⟩, m4, m5, m6, m7, m8⟩ := hm
  exact ⟨a, s, c, ⟨h1.get (by decide) m1 e1, h1.get (by decide) m2 e2, h1.get (by decide) m3 e3⟩, a1.keep h1 h2 (by decide) m4, a2.keep h1 h2 (by decide) m5, a3.keep h1 h2 (by decide) m6, a4.keep h1 h2 (by decide) m7, a5.keep h1 h2 (by decide) m8⟩
theorem RelD.keep (h : RelD G wx wm) (h1 : FX m 109 wx wx') (h2 : FX m' 47 wm wm') (hm : mkq m 5 0 = false ∧ mkq m 11 0 = false ∧ mkq m' 7 0 = false) : RelD G wx' wm' := by
  obtain ⟨a, e1, a1, q, a2, a3⟩ := h
  exact ⟨a, h1.get (by decide) hm.1 e1, a1.keep h1 h2 (by decide) hm.2, q, (h1 11 0 (by decide) hm.2.1).trans a2, a3⟩
theorem RelAr.mil (hM : RelM G wx' wm') {f g p0 r0 f0 o0 w0 p9 r9 f9 o9 w9 : Nat → Int32} {L h s c : Int32} (hL : L.toInt ≤ 60) (e : TE80 f g) (A : MilA G 5 0 12 0 18 0 6 9 13 14 19 f L h s c p0 r0 f0 o0 w0 wx') (B : MilA G 0 3 0 10 0 16 2 5 8 9 13 g L h s c p9 r9 f9 o9 w9 wm') (E : (∀ k : Nat, k < 16 → (k : Int) < h.toInt → p0 k = p9 k) ∧ (∀ k : Nat, k < 16 → (k : Int) < h.toInt → r0 k = r9 k) ∧ (∀ k : Nat, k < 6 → (k : Int) < s.toInt → f0 k = f9 k) ∧ (∀ k : Nat, k < 6 → (k : Int) < s.toInt → o0 k = o9 k) ∧ (∀ k : Nat, k < 8 → (k : Int) < c.toInt → w0 k = w9 k)) : RelAr G wx' wm' := by
  obtain ⟨_, a2, s2, c2, _, _, _, _, _, _, ⟨x1, y1⟩, ⟨x2, y2⟩, ⟨x3, y3⟩, _⟩ := hM
  obtain ⟨u1, u2, u3, ⟨z1, z2, z3⟩, b1, b2, b3, b4, b5⟩ := A
  obtain ⟨v1, v2, v3, ⟨t1, t2, t3⟩, d1, d2, d3, d4, d5⟩ := B
  obtain rfl := some_int (x1.symm.trans z1)
  obtain rfl := some_int (x2.symm.trans z2)
  obtain rfl := some_int (x3.symm.trans z3)
  obtain rfl := some_int (y1.symm.trans t1)
  obtain rfl := some_int (y2.symm.trans t2)
  obtain rfl := some_int (y3.symm.trans t3)
  rw [cg_run0 e hL, cg_hA e hL] at b1
  rw [cg_run0 e hL, cg_hG e hL] at b2
  rw [cg_run0 e hL, cg_pA e hL] at b3
  rw [cg_run0 e hL, cg_pC e hL] at b4
  rw [cg_run0 e hL, cg_cA e hL] at b5
  exact ⟨_, _, _, ⟨z1, z2, z3⟩, b1.same d1 E.1, b2.same d2 E.2.1, b3.same d3 E.2.2.1, b4.same d4 E.2.2.2.1, b5.same d5 E.2.2.2.2⟩
theorem dl_ge {w : Int} {f : Nat → Int32} {p : Int32} : 0 ≤ dl w f p := by unfold dl; split <;> omega
theorem run_ge {f : Nat → Int32} {L : Int32} : ∀ (n : Nat) (p : Int32) (H S C k : Int) (a b d : Nat → Int32), H ≤ (run f L n p H S C k a b d).2.2.2.1
  | 0, _, _, _, _, _, _, _, _ => Int.le_refl _
  | n + 1, p, H, S, C, k, a, b, d => by
    show H ≤ (if (lin f L p H S C).1 = true then (if (tk f L (lin f L p H S C).2 59).1 = true then _ else _) else _ : RR9).2.2.2.1
    have h0 : 0 ≤ dl 104 f p := dl_ge
    by_cases hy : (lin f L p H S C).1 = true
    · rw [if_pos hy]
      by_cases ht : (tk f L (lin f L p H S C).2 59).1 = true
      · rw [if_pos ht]
        exact Int.le_trans (by omega) (run_ge n _ _ _ _ _ _ _ _)
      · rw [if_neg ht]
        show H ≤ H + dl 104 f p
        omega
    · rw [if_neg hy]
      exact Int.le_refl _
theorem CN.ge {N : Int32} {f : Nat → Int32} {L : Int32} {v h s c h2 s2 c2 : Int} (A : CN N (run0 f L h s c) v h s c h2 s2 c2) : h ≤ h2 := by
  obtain ⟨-, -, -, a4, a5⟩ := A
  have g := run_ge (f := f) (L := L) 60 0 h s c 0 zf zf zf
  have g : h ≤ (run0 f L h s c).2.2.2.1 := g
  by_cases o : okR N (run0 f L h s c)
  · have e := a4 o
    omega
  · have e := a5 o
    omega
theorem RelD.mil (hM : RelM G wx' wm') (hD : RelD G wx wm) (h1 : FX m 109 wx wx') (hm : mkq m 11 0 = false) {g d9 : Nat → Int32} {L h s c : Int32} (he : fget wx 5 0 = some (.int h)) (hd : cget wm 7 0 = some (.inr (cyI G, 16, .inl d9))) (B : MilD G 0 3 7 g L h s c d9 wm') (hge : ∀ h2 : Int32, fget wx' 5 0 = some (.int h2) → h.toInt ≤ h2.toInt) : RelD G wx' wm' := by
  obtain ⟨_, a2, s2, c2, _, _, _, _, _, _, ⟨x1, y1⟩, _⟩ := hM
  obtain ⟨v1, t1, q, q1, q2⟩ := B
  obtain rfl := some_int (y1.symm.trans t1)
  obtain ⟨h0, e0, ⟨d0, g0, k1, k2, k3⟩, q3, k4, k5⟩ := hD
  obtain rfl := some_int (he.symm.trans e0)
  obtain rfl := arrinj (hd.symm.trans k2)
  obtain rfl := arrinj (k1.symm.trans k4)
  have hx := (h1 11 0 (by decide) hm).trans k1
  have hg := hge _ x1
  refine ⟨_, x1, ⟨d0, q, hx, q1, fun k hk hH => ?_⟩, d0, hx, fun k hk hH => k5 k hk (by omega)⟩
  by_cases hc : (k : Int) < h.toInt
  · rw [k3 k hk hc, (q2 k hk).1 hc]
  · rw [k5 k hk (by omega), (q2 k hk).2 (by omega) hH]
end GRP
end
section
/-! the relation of p7, p8, p35, p39, p40 -/
theorem MilE.ge {kn jn kh jh ks js kc jc : Nat} {n : Int32} {f : Nat → Int32} {h s c : Int32} {r : Option Value} {w1 : va_W} (H : MilE kn jn kh jh ks js kc jc n f h s c r w1) {h3 : Int32} (e : fget w1 kh jh = some (.int h3)) : h.toInt ≤ h3.toInt := by
  obtain ⟨v, h2, s2, c2, -, C, -, -, f2, -⟩ := H
  obtain rfl := some_int (e.symm.trans f2)
  exact C.ge
def RelN (G : KG) (wx wm : va_W) : Prop := RelM G wx wm ∧ RelAr G wx wm ∧ RelD G wx wm ∧ RelC G wx wm
theorem RelN.of {G : KG} {wx wm : va_W} (a : RelM G wx wm) (b : RelAr G wx wm) (c : RelD G wx wm) (d : RelC G wx wm) : RelN G wx wm := ⟨a, b, c, d⟩
theorem RelN.m {G : KG} {wx wm : va_W} (h : RelN G wx wm) : RelM G wx wm := And.left h
theorem RelN.a {G : KG} {wx wm : va_W} (h : RelN G wx wm) : RelAr G wx wm := And.left (And.right h)
theorem RelN.d {G : KG} {wx wm : va_W} (h : RelN G wx wm) : RelD G wx wm := And.left (And.right (And.right h))
theorem RelN.c {G : KG} {wx wm : va_W} (h : RelN G wx wm) : RelC G wx wm := And.right (And.right (And.right h))
end
section
/-! deep: exactly -/
def mDeep (h : Int) (d : Nat → Int32) (a v : Int32) : Int32 × (Nat → Int32) := if 0 ≤ a.toInt ∧ a.toInt < h ∧ 0 ≤ v.toInt ∧ v.toInt ≤ 9 then (d a.toNatClampNeg, upd d a.toNatClampNeg v) else (-1, d)
def CQ (G : KG) (w : va_W) (k n : Nat) (F : Nat → Int32) : Prop := ∃ q : Nat → Int32, cget w k 0 = some (.inr (cyI G, n, .inl q)) ∧ ∀ j, j < n → q j = F j
theorem CQ.app {G : KG} {w wc : va_W} {k n : Nat} {F : Nat → Int32} (hk : k < w.length) (h : CQ G w k n F) : CQ G (w ++ wc) k n F := by
  obtain ⟨q, q1, q2⟩ := h
  exact ⟨q, by rw [cget_app hk]; exact q1, q2⟩
theorem dq_X5_isHole_1 : decode cX5_isHole 1 = .ok (.ifCond .lt 15, 3) := by decide +kernel
theorem dq_X5_isHole_17 : decode cX5_isHole 17 = .ok (.ireturn, 1) := by decide +kernel
theorem dq_X5_isHole_6 : decode cX5_isHole 6 = .ok (.getfield 34, 3) := by decide +kernel
theorem dq_X5_isHole_9 : decode cX5_isHole 9 = .ok (.if_icmp .ge 7, 3) := by decide +kernel
theorem dq_X5_isHole_13 : decode cX5_isHole 13 = .ok (.goto 4, 3) := by decide +kernel
abbrev bq_X5_isHole_0_1 : ZB := [(.iload_n 1, .null)]
theorem kq_X5_isHole_0_1 : zchk cX5_isHole bq_X5_isHole_0_1 0 = true ∧ zpc bq_X5_isHole_0_1 0 = 1 := ⟨by decide +kernel, rfl⟩
abbrev bq_X5_isHole_16_17 : ZB := [(.iconst 0, .int 0)]
theorem kq_X5_isHole_16_17 : zchk cX5_isHole bq_X5_isHole_16_17 16 = true ∧ zpc bq_X5_isHole_16_17 16 = 17 := ⟨by decide +kernel, rfl⟩
abbrev bq_X5_isHole_4_6 : ZB := [(.iload_n 1, .null), (.aload_n 0, .null)]
theorem kq_X5_isHole_4_6 : zchk cX5_isHole bq_X5_isHole_4_6 4 = true ∧ zpc bq_X5_isHole_4_6 4 = 6 := ⟨by decide +kernel, rfl⟩
abbrev bq_X5_isHole_12_13 : ZB := [(.iconst 1, .int 1)]
theorem kq_X5_isHole_12_13 : zchk cX5_isHole bq_X5_isHole_12_13 12 = true ∧ zpc bq_X5_isHole_12_13 12 = 13 := ⟨by decide +kernel, rfl⟩
set_option maxHeartbeats 4000000 in
set_option maxRecDepth 100000 in
theorem cq_X5_isHole (l : Launch) (G : KG) (ring : Nat) (hc : Int32) (g_rp : Value) (g_rx : Value) (g_ry : Value) (g_rr : Value) (g_rh : Value) (g_rd : Value) (g_ph : Value) (g_po : Value) (a : Int32) (hci : Int) (ai : Int) (hhc : hc.toInt = hci) (ha : a.toInt = ai) : Ct l G yX5_isHole cX5_isHole 2 (some .boolean) { frames := 0, cells := 0, slots := 0, locals := 0 } [.ref ring, .int a] [(ring, ob 5 [.int hc, g_rp, g_rx, g_ry, g_rr, g_rh, g_rd, g_ph, g_po])] (fun r w1 => r = some (.int (zb (decide (0 ≤ ai ∧ ai < hci)))) ∧ w1 = [(ring, ob 5 [.int hc, g_rp, g_rx, g_ry, g_rr, g_rh, g_rd, g_ph, g_po])]) := by
  refine ct_of [(0, .ref ring), (1, .int a)] (by decide) (Nat.le_of_ble_eq_true rfl) rfl ?_
  intro p0 e0 s0 m0 args0 below0 meth0 c0 A X
  refine z_run X bq_X5_isHole_0_1 kq_X5_isHole_0_1 (lv' := [(0, .ref ring), (1, .int a)]) (st' := [.int a]) rfl ?_
  refine zi_lt X dq_X5_isHole_1 (tgt := 16) (by decide) (a := ai) ha (fun c1_1 => ?_) (fun c1_1 => ?_)
  ·
    refine z_run X bq_X5_isHole_16_17 kq_X5_isHole_16_17 (lv' := [(0, .ref ring), (1, .int a)]) (st' := [.int 0]) rfl ?_
    exact z_zret X rfl rfl dq_X5_isHole_17 (Nat.le_of_ble_eq_true rfl) (Nat.le_of_ble_eq_true rfl) ⟨(congrArg (fun z => some (Value.int z)) (zb_f (by omega)).symm), rfl⟩
  ·
    refine z_run X bq_X5_isHole_4_6 kq_X5_isHole_4_6 (lv' := [(0, .ref ring), (1, .int a)]) (st' := [.ref ring, .int a]) rfl ?_
    refine z_get X fl_5_34 dq_X5_isHole_6 0 rfl (v := .int hc) rfl ?_
    refine zc_ge X dq_X5_isHole_9 (tgt := 16) (by decide) (a := ai) (b := hci) ha hhc (fun c9_2 => ?_) (fun c9_2 => ?_)
    ·
      refine z_run X bq_X5_isHole_16_17 kq_X5_isHole_16_17 (lv' := [(0, .ref ring), (1, .int a)]) (st' := [.int 0]) rfl ?_
      exact z_zret X rfl rfl dq_X5_isHole_17 (Nat.le_of_ble_eq_true rfl) (Nat.le_of_ble_eq_true rfl) ⟨(congrArg (fun z => some (Value.int z)) (zb_f (by omega)).symm), rfl⟩
    ·
      refine z_run X bq_X5_isHole_12_13 kq_X5_isHole_12_13 (lv' := [(0, .ref ring), (1, .int a)]) (st' := [.int 1]) rfl ?_
      refine z_goto X dq_X5_isHole_13 (tgt := 17) (by decide) ?_
      exact z_zret X rfl rfl dq_X5_isHole_17 (Nat.le_of_ble_eq_true rfl) (Nat.le_of_ble_eq_true rfl) ⟨(congrArg (fun z => some (Value.int z)) (zb_t (by omega)).symm), rfl⟩

theorem dq_X10_deep_1 : decode cX10_deep 1 = .ok (.getfield 26, 3) := by decide +kernel
theorem dq_X10_deep_5 : decode cX10_deep 5 = .ok (.invokevirtual 106, 3) := by decide +kernel
theorem dq_X10_deep_8 : decode cX10_deep 8 = .ok (.ifCond .eq 13, 3) := by decide +kernel
theorem dq_X10_deep_22 : decode cX10_deep 22 = .ok (.ireturn, 1) := by decide +kernel
theorem dq_X10_deep_12 : decode cX10_deep 12 = .ok (.ifCond .lt 9, 3) := by decide +kernel
theorem dq_X10_deep_18 : decode cX10_deep 18 = .ok (.if_icmp .le 5, 3) := by decide +kernel
theorem dq_X10_deep_24 : decode cX10_deep 24 = .ok (.getfield 26, 3) := by decide +kernel
theorem dq_X10_deep_27 : decode cX10_deep 27 = .ok (.getfield 131, 3) := by decide +kernel
theorem dq_X10_deep_31 : decode cX10_deep 31 = .ok (.iaload, 1) := by decide +kernel
theorem dq_X10_deep_34 : decode cX10_deep 34 = .ok (.getfield 26, 3) := by decide +kernel
theorem dq_X10_deep_37 : decode cX10_deep 37 = .ok (.getfield 131, 3) := by decide +kernel
theorem dq_X10_deep_42 : decode cX10_deep 42 = .ok (.iastore, 1) := by decide +kernel
theorem dq_X10_deep_44 : decode cX10_deep 44 = .ok (.ireturn, 1) := by decide +kernel
abbrev bq_X10_deep_0_1 : ZB := [(.aload_n 0, .null)]
theorem kq_X10_deep_0_1 : zchk cX10_deep bq_X10_deep_0_1 0 = true ∧ zpc bq_X10_deep_0_1 0 = 1 := ⟨by decide +kernel, rfl⟩
abbrev bq_X10_deep_4_5 : ZB := [(.iload_n 1, .null)]
theorem kq_X10_deep_4_5 : zchk cX10_deep bq_X10_deep_4_5 4 = true ∧ zpc bq_X10_deep_4_5 4 = 5 := ⟨by decide +kernel, rfl⟩
abbrev bq_X10_deep_21_22 : ZB := [(.iconst (-1), .int (-1))]
theorem kq_X10_deep_21_22 : zchk cX10_deep bq_X10_deep_21_22 21 = true ∧ zpc bq_X10_deep_21_22 21 = 22 := ⟨by decide +kernel, rfl⟩
abbrev bq_X10_deep_11_12 : ZB := [(.iload_n 2, .null)]
theorem kq_X10_deep_11_12 : zchk cX10_deep bq_X10_deep_11_12 11 = true ∧ zpc bq_X10_deep_11_12 11 = 12 := ⟨by decide +kernel, rfl⟩
abbrev bq_X10_deep_15_18 : ZB := [(.iload_n 2, .null), (.bipush 9, .int 9)]
theorem kq_X10_deep_15_18 : zchk cX10_deep bq_X10_deep_15_18 15 = true ∧ zpc bq_X10_deep_15_18 15 = 18 := ⟨by decide +kernel, rfl⟩
abbrev bq_X10_deep_23_24 : ZB := [(.aload_n 0, .null)]
theorem kq_X10_deep_23_24 : zchk cX10_deep bq_X10_deep_23_24 23 = true ∧ zpc bq_X10_deep_23_24 23 = 24 := ⟨by decide +kernel, rfl⟩
abbrev bq_X10_deep_30_31 : ZB := [(.iload_n 1, .null)]
theorem kq_X10_deep_30_31 : zchk cX10_deep bq_X10_deep_30_31 30 = true ∧ zpc bq_X10_deep_30_31 30 = 31 := ⟨by decide +kernel, rfl⟩
abbrev bq_X10_deep_32_34 : ZB := [(.istore_n 3, .null), (.aload_n 0, .null)]
theorem kq_X10_deep_32_34 : zchk cX10_deep bq_X10_deep_32_34 32 = true ∧ zpc bq_X10_deep_32_34 32 = 34 := ⟨by decide +kernel, rfl⟩
abbrev bq_X10_deep_40_42 : ZB := [(.iload_n 1, .null), (.iload_n 2, .null)]
theorem kq_X10_deep_40_42 : zchk cX10_deep bq_X10_deep_40_42 40 = true ∧ zpc bq_X10_deep_40_42 40 = 42 := ⟨by decide +kernel, rfl⟩
abbrev bq_X10_deep_43_44 : ZB := [(.iload_n 3, .null)]
theorem kq_X10_deep_43_44 : zchk cX10_deep bq_X10_deep_43_44 43 = true ∧ zpc bq_X10_deep_43_44 43 = 44 := ⟨by decide +kernel, rfl⟩
set_option maxHeartbeats 4000000 in
set_option maxRecDepth 100000 in
theorem cq_X10_deep (l : Launch) (G : KG) (x : Nat) (x_told : Value) (x_reader : Value) (ring : Nat) (x_speeds : Value) (x_wheel : Value) (x_trials : Value) (x_span : Value) (x_search : Value) (x_kept : Value) (x_crosses : Value) (x_trueMasses : Value) (x_thought : Value) (x_up : Value) (x_low : Value) (x_fits : Value) (x_pulls : Value) (ring : Nat) (hc : Int32) (g_rp : Value) (g_rx : Value) (g_ry : Value) (g_rr : Value) (g_rh : Value) (rd : Nat) (g_ph : Value) (g_po : Value) (fd : Nat → Int32) (a : Int32) (v : Int32) (hci : Int) (ai : Int) (vi : Int) (hhc : hc.toInt = hci) (ha : a.toInt = ai) (hv : v.toInt = vi) (hc0 : 0 ≤ hci ∧ hci ≤ 16) : Ct l G yX10_deep cX10_deep 4 (some .int) { frames := 1, cells := 0, slots := 0, locals := 21 } [.ref x, .int a, .int v] [(x, ob 10 [x_told, x_reader, .ref ring, x_speeds, x_wheel, x_trials, x_span, x_search, x_kept, x_crosses, x_trueMasses, x_thought, x_up, x_low, x_fits, x_pulls]), (ring, ob 5 [.int hc, g_rp, g_rx, g_ry, g_rr, g_rh, .ref rd, g_ph, g_po]), (rd, aI G 16 fd)] (fun r w1 => ∃ (rz : Int32), ∃ (fd2 : Nat → Int32), (rz = (mDeep hci fd a v).1) ∧ (fd2 = (mDeep hci fd a v).2) ∧ r = some (.int rz) ∧ w1 = [(x, ob 10 [x_told, x_reader, .ref ring, x_speeds, x_wheel, x_trials, x_span, x_search, x_kept, x_crosses, x_trueMasses, x_thought, x_up, x_low, x_fits, x_pulls]), (ring, ob 5 [.int hc, g_rp, g_rx, g_ry, g_rr, g_rh, .ref rd, g_ph, g_po]), (rd, aI G 16 fd2)]) := by
  refine ct_of [(0, .ref x), (1, .int a), (2, .int v)] (by decide) (Nat.le_of_ble_eq_true rfl) rfl ?_
  intro p0 e0 s0 m0 args0 below0 meth0 c0 A X
  refine z_run X bq_X10_deep_0_1 kq_X10_deep_0_1 (lv' := [(0, .ref x), (1, .int a), (2, .int v)]) (st' := [.ref x]) rfl ?_
  refine z_get X fl_10_26 dq_X10_deep_1 0 rfl (v := .ref ring) rfl ?_
  refine z_run X bq_X10_deep_4_5 kq_X10_deep_4_5 (lv' := [(0, .ref x), (1, .int a), (2, .int v)]) (st' := [.int a, .ref ring]) rfl ?_
  refine z_callV X k_10_106 (cq_X5_isHole l G ring hc g_rp g_rx g_ry g_rr g_rh (.ref rd) g_ph g_po a hci ai hhc ha) dq_X10_deep_5 1 rfl rfl rfl ⟨Nat.le_of_ble_eq_true rfl, Nat.le_of_ble_eq_true rfl⟩ ⟨Nat.le_of_ble_eq_true rfl, Nat.le_of_ble_eq_true rfl⟩ rfl (rest := []) (As := [.int a]) rfl (Nat.le_of_ble_eq_true rfl) [1] [0, 2] rfl (by decide) (wr := [(x, ob 10 [x_told, x_reader, .ref ring, x_speeds, x_wheel, x_trials, x_span, x_search, x_kept, x_crosses, x_trueMasses, x_thought, x_up, x_low, x_fits, x_pulls]), (rd, aI G 16 fd)]) rfl (by decide) (by decide) ?_
  rintro _ _ ⟨rfl, rfl⟩
  refine Z.at (pc' := 8) (st' := [.int (zb (decide (0 ≤ ai ∧ ai < hci)))]) (ws' := [(x, ob 10 [x_told, x_reader, .ref ring, x_speeds, x_wheel, x_trials, x_span, x_search, x_kept, x_crosses, x_trueMasses, x_thought, x_up, x_low, x_fits, x_pulls]), (rd, aI G 16 fd), (ring, ob 5 [.int hc, g_rp, g_rx, g_ry, g_rr, g_rh, .ref rd, g_ph, g_po])]) (kc' := 0) (ks' := 0) rfl rfl rfl rfl rfl ?_
  refine zi_eq_zb X dq_X10_deep_8 (tgt := 21) (by decide) (fun c8_1 => ?_) (fun c8_1 => ?_)
  ·
    refine z_run X bq_X10_deep_21_22 kq_X10_deep_21_22 (lv' := [(0, .ref x), (1, .int a), (2, .int v)]) (st' := [.int (-1)]) rfl ?_
    refine Z.sub (lv' := []) [] rfl [0, 2, 1] (ws' := [(x, ob 10 [x_told, x_reader, .ref ring, x_speeds, x_wheel, x_trials, x_span, x_search, x_kept, x_crosses, x_trueMasses, x_thought, x_up, x_low, x_fits, x_pulls]), (ring, ob 5 [.int hc, g_rp, g_rx, g_ry, g_rr, g_rh, .ref rd, g_ph, g_po]), (rd, aI G 16 fd)]) rfl (by decide) ?_
    exact z_iret X rfl dq_X10_deep_22 (Nat.le_of_ble_eq_true rfl) (Nat.le_of_ble_eq_true rfl) ⟨(-1), fd, (by unfold mDeep; first | rw [if_pos (by omega)] | rw [if_neg (by omega)]), (by unfold mDeep; first | rw [if_pos (by omega)] | rw [if_neg (by omega)]), rfl, rfl⟩
  ·
    refine z_run X bq_X10_deep_11_12 kq_X10_deep_11_12 (lv' := [(0, .ref x), (1, .int a), (2, .int v)]) (st' := [.int v]) rfl ?_
    refine zi_lt X dq_X10_deep_12 (tgt := 21) (by decide) (a := vi) hv (fun c12_2 => ?_) (fun c12_2 => ?_)
    ·
      refine z_run X bq_X10_deep_21_22 kq_X10_deep_21_22 (lv' := [(0, .ref x), (1, .int a), (2, .int v)]) (st' := [.int (-1)]) rfl ?_
      refine Z.sub (lv' := []) [] rfl [0, 2, 1] (ws' := [(x, ob 10 [x_told, x_reader, .ref ring, x_speeds, x_wheel, x_trials, x_span, x_search, x_kept, x_crosses, x_trueMasses, x_thought, x_up, x_low, x_fits, x_pulls]), (ring, ob 5 [.int hc, g_rp, g_rx, g_ry, g_rr, g_rh, .ref rd, g_ph, g_po]), (rd, aI G 16 fd)]) rfl (by decide) ?_
      exact z_iret X rfl dq_X10_deep_22 (Nat.le_of_ble_eq_true rfl) (Nat.le_of_ble_eq_true rfl) ⟨(-1), fd, (by unfold mDeep; first | rw [if_pos (by omega)] | rw [if_neg (by omega)]), (by unfold mDeep; first | rw [if_pos (by omega)] | rw [if_neg (by omega)]), rfl, rfl⟩
    ·
      refine z_run X bq_X10_deep_15_18 kq_X10_deep_15_18 (lv' := [(0, .ref x), (1, .int a), (2, .int v)]) (st' := [.int 9, .int v]) rfl ?_
      refine zc_le X dq_X10_deep_18 (tgt := 23) (by decide) (a := vi) (b := 9) hv (show (9 : Int32).toInt = 9 from by decide) (fun c18_3 => ?_) (fun c18_3 => ?_)
      ·
        refine z_run X bq_X10_deep_23_24 kq_X10_deep_23_24 (lv' := [(0, .ref x), (1, .int a), (2, .int v)]) (st' := [.ref x]) rfl ?_
        refine z_get X fl_10_26 dq_X10_deep_24 0 rfl (v := .ref ring) rfl ?_
        refine z_getN X fl_10_131 dq_X10_deep_27 2 rfl (v := .ref rd) rfl ?_
        refine z_run X bq_X10_deep_30_31 kq_X10_deep_30_31 (lv' := [(0, .ref x), (1, .int a), (2, .int v)]) (st' := [.int a, .ref rd]) rfl ?_
        refine z_iald X dq_X10_deep_31 1 rfl (vin ha (by omega) (by omega)) (v := (fd a.toNatClampNeg)) rfl ?_
        refine z_run X bq_X10_deep_32_34 kq_X10_deep_32_34 (lv' := [(3, .int (fd a.toNatClampNeg)), (0, .ref x), (1, .int a), (2, .int v)]) (st' := [.ref x]) rfl ?_
        refine z_get X fl_10_26 dq_X10_deep_34 0 rfl (v := .ref ring) rfl ?_
        refine z_getN X fl_10_131 dq_X10_deep_37 2 rfl (v := .ref rd) rfl ?_
        refine z_run X bq_X10_deep_40_42 kq_X10_deep_40_42 (lv' := [(3, .int (fd a.toNatClampNeg)), (0, .ref x), (1, .int a), (2, .int v)]) (st' := [.int v, .int a, .ref rd]) rfl ?_
        refine z_iast X dq_X10_deep_42 1 rfl (vin ha (by omega) (by omega)) (ws' := [(x, ob 10 [x_told, x_reader, .ref ring, x_speeds, x_wheel, x_trials, x_span, x_search, x_kept, x_crosses, x_trueMasses, x_thought, x_up, x_low, x_fits, x_pulls]), (rd, aI G 16 (upd fd a.toNatClampNeg v)), (ring, ob 5 [.int hc, g_rp, g_rx, g_ry, g_rr, g_rh, .ref rd, g_ph, g_po])]) rfl ?_
        refine z_run X bq_X10_deep_43_44 kq_X10_deep_43_44 (lv' := [(3, .int (fd a.toNatClampNeg)), (0, .ref x), (1, .int a), (2, .int v)]) (st' := [.int (fd a.toNatClampNeg)]) rfl ?_
        refine Z.sub (lv' := []) [] rfl [0, 2, 1] (ws' := [(x, ob 10 [x_told, x_reader, .ref ring, x_speeds, x_wheel, x_trials, x_span, x_search, x_kept, x_crosses, x_trueMasses, x_thought, x_up, x_low, x_fits, x_pulls]), (ring, ob 5 [.int hc, g_rp, g_rx, g_ry, g_rr, g_rh, .ref rd, g_ph, g_po]), (rd, aI G 16 (upd fd a.toNatClampNeg v))]) rfl (by decide) ?_
        exact z_iret X rfl dq_X10_deep_44 (Nat.le_of_ble_eq_true rfl) (Nat.le_of_ble_eq_true rfl) ⟨(fd a.toNatClampNeg), (upd fd a.toNatClampNeg v), (by unfold mDeep; first | rw [if_pos (by omega)] | rw [if_neg (by omega)]), (by unfold mDeep; first | rw [if_pos (by omega)] | rw [if_neg (by omega)]), rfl, rfl⟩
      ·
        refine z_run X bq_X10_deep_21_22 kq_X10_deep_21_22 (lv' := [(0, .ref x), (1, .int a), (2, .int v)]) (st' := [.int (-1)]) rfl ?_
        refine Z.sub (lv' := []) [] rfl [0, 2, 1] (ws' := [(x, ob 10 [x_told, x_reader, .ref ring, x_speeds, x_wheel, x_trials, x_span, x_search, x_kept, x_crosses, x_trueMasses, x_thought, x_up, x_low, x_fits, x_pulls]), (ring, ob 5 [.int hc, g_rp, g_rx, g_ry, g_rr, g_rh, .ref rd, g_ph, g_po]), (rd, aI G 16 fd)]) rfl (by decide) ?_
        exact z_iret X rfl dq_X10_deep_22 (Nat.le_of_ble_eq_true rfl) (Nat.le_of_ble_eq_true rfl) ⟨(-1), fd, (by unfold mDeep; first | rw [if_pos (by omega)] | rw [if_neg (by omega)]), (by unfold mDeep; first | rw [if_pos (by omega)] | rw [if_neg (by omega)]), rfl, rfl⟩

theorem dq_X11_isHole_4 : decode cX11_isHole 4 = .ok (.getfield 63, 3) := by decide +kernel
theorem dq_X11_isHole_10 : decode cX11_isHole 10 = .ok (.invokestatic 29, 3) := by decide +kernel
theorem dq_X11_isHole_13 : decode cX11_isHole 13 = .ok (.ireturn, 1) := by decide +kernel
abbrev bq_X11_isHole_0_4 : ZB := [(.iload_n 1, .null), (.i2l, .null), (.lconst 0, .long 0), (.aload_n 0, .null)]
theorem kq_X11_isHole_0_4 : zchk cX11_isHole bq_X11_isHole_0_4 0 = true ∧ zpc bq_X11_isHole_0_4 0 = 4 := ⟨by decide +kernel, rfl⟩
abbrev bq_X11_isHole_7_10 : ZB := [(.iconst 1, .int 1), (.isub, .null), (.i2l, .null)]
theorem kq_X11_isHole_7_10 : zchk cX11_isHole bq_X11_isHole_7_10 7 = true ∧ zpc bq_X11_isHole_7_10 7 = 10 := ⟨by decide +kernel, rfl⟩
set_option maxHeartbeats 4000000 in
set_option maxRecDepth 100000 in
theorem cq_X11_isHole (l : Launch) (G : KG) (mo : Nat) (th : Int32) (g_rows : Value) (g_row : Value) (hc : Int32) (r_planeOf : Nat) (r_holeX : Nat) (r_holeY : Nat) (r_room : Nat) (r_ounces : Nat) (r_deepOf : Nat) (sc : Int32) (r_factor : Nat) (r_otherOf : Nat) (r_isApart : Nat) (g_apartX : Value) (g_apartY : Value) (cc : Int32) (r_weight : Nat) (r_tape : Nat) (n : Int32) (p : Int32) (lim : Int32) (fi : Int32) (g_crossOf : Value) (g_trueX : Value) (g_trueY : Value) (g_thoughtX : Value) (g_thoughtY : Value) (g_poundHole : Value) (g_poundOunces : Value) (g_lead : Value) (g_trials : Value) (g_trialSpeed : Value) (g_isWhole : Value) (g_trialX : Value) (g_trialY : Value) (g_trialGive : Value) (g_trialLead : Value) (g_baseX : Value) (g_baseY : Value) (g_timesPull : Value) (g_trialBaseX : Value) (g_trialBaseY : Value) (g_trialTimes : Value) (g_pulls : Value) (g_pullMany : Value) (g_sizes : Value) (g_merged : Value) (g_nextHole : Value) (g_nextOunces : Value) (g_leftBehind : Value) (g_manUp : Value) (g_manLow : Value) (g_asked : Value) (g_lowOf : Value) (g_highOf : Value) (g_tried : Value) (g_found : Value) (g_askedMany : Value) (g_mostHoles : Value) (g_isFound : Value) (g_foundRest : Value) (g_foundOunces : Value) (g_question : Value) (g_questionSpeed : Value) (g_ounceRest : Value) (g_parts : Value) (g_filled : Value) (g_cogAt : Value) (g_cogBest : Value) (g_isOrdered : Value) (g_orderSize : Value) (g_isKept : Value) (g_kept : Value) (g_keptAt : Value) (a : Int32) (hci : Int) (ai : Int) (hhc : hc.toInt = hci) (ha : a.toInt = ai) (hc0 : 0 ≤ hci ∧ hci ≤ 16) : Ct l G yX11_isHole cX11_isHole 2 (some .boolean) { frames := 1, cells := 0, slots := 0, locals := 25 } [.ref mo, .int a] [(mo, ob 11 [.int th, g_rows, g_row, .int hc, .ref r_planeOf, .ref r_holeX, .ref r_holeY, .ref r_room, .ref r_ounces, .ref r_deepOf, .int sc, .ref r_factor, .ref r_otherOf, .ref r_isApart, g_apartX, g_apartY, .int cc, .ref r_weight, .ref r_tape, .int n, .int p, .int lim, .int fi, g_crossOf, g_trueX, g_trueY, g_thoughtX, g_thoughtY, g_poundHole, g_poundOunces, g_lead, g_trials, g_trialSpeed, g_isWhole, g_trialX, g_trialY, g_trialGive, g_trialLead, g_baseX, g_baseY, g_timesPull, g_trialBaseX, g_trialBaseY, g_trialTimes, g_pulls, g_pullMany, g_sizes, g_merged, g_nextHole, g_nextOunces, g_leftBehind, g_manUp, g_manLow, g_asked, g_lowOf, g_highOf, g_tried, g_found, g_askedMany, g_mostHoles, g_isFound, g_foundRest, g_foundOunces, g_question, g_questionSpeed, g_ounceRest, g_parts, g_filled, g_cogAt, g_cogBest, g_isOrdered, g_orderSize, g_isKept, g_kept, g_keptAt])] (fun r w1 => r = some (.int (zb (decide (0 ≤ ai ∧ ai < hci)))) ∧ w1 = [(mo, ob 11 [.int th, g_rows, g_row, .int hc, .ref r_planeOf, .ref r_holeX, .ref r_holeY, .ref r_room, .ref r_ounces, .ref r_deepOf, .int sc, .ref r_factor, .ref r_otherOf, .ref r_isApart, g_apartX, g_apartY, .int cc, .ref r_weight, .ref r_tape, .int n, .int p, .int lim, .int fi, g_crossOf, g_trueX, g_trueY, g_thoughtX, g_thoughtY, g_poundHole, g_poundOunces, g_lead, g_trials, g_trialSpeed, g_isWhole, g_trialX, g_trialY, g_trialGive, g_trialLead, g_baseX, g_baseY, g_timesPull, g_trialBaseX, g_trialBaseY, g_trialTimes, g_pulls, g_pullMany, g_sizes, g_merged, g_nextHole, g_nextOunces, g_leftBehind, g_manUp, g_manLow, g_asked, g_lowOf, g_highOf, g_tried, g_found, g_askedMany, g_mostHoles, g_isFound, g_foundRest, g_foundOunces, g_question, g_questionSpeed, g_ounceRest, g_parts, g_filled, g_cogAt, g_cogBest, g_isOrdered, g_orderSize, g_isKept, g_kept, g_keptAt])]) := by
  refine ct_of [(0, .ref mo), (1, .int a)] (by decide) (Nat.le_of_ble_eq_true rfl) rfl ?_
  intro p0 e0 s0 m0 args0 below0 meth0 c0 A X
  refine z_run X bq_X11_isHole_0_4 kq_X11_isHole_0_4 (lv' := [(0, .ref mo), (1, .int a)]) (st' := [.ref mo, .long 0, .long a.toInt64]) rfl ?_
  refine z_get X fl_11_63 dq_X11_isHole_4 0 rfl (v := .int hc) rfl ?_
  refine z_run X bq_X11_isHole_7_10 kq_X11_isHole_7_10 (lv' := [(0, .ref mo), (1, .int a)]) (st' := [.long (hc - 1).toInt64, .long 0, .long a.toInt64]) rfl ?_
  refine z_callS X k_11_29 (cm_X11_in l G a.toInt64 0 (hc - 1).toInt64 ai 0 ((hci - 1)) (tI64 ha) (show (0 : Int64).toInt = 0 from by decide) (tI64 (tI_sub hhc (show (1 : Int32).toInt = 1 from by decide) (by omega)))) dq_X11_isHole_10 ⟨Nat.le_of_ble_eq_true rfl, Nat.le_of_ble_eq_true rfl⟩ ⟨Nat.le_of_ble_eq_true rfl, Nat.le_of_ble_eq_true rfl⟩ rfl (rest := []) (As := [.long a.toInt64, .long 0, .long (hc - 1).toInt64]) rfl (Nat.le_of_ble_eq_true rfl) [] [0] rfl (by decide) (wr := [(mo, ob 11 [.int th, g_rows, g_row, .int hc, .ref r_planeOf, .ref r_holeX, .ref r_holeY, .ref r_room, .ref r_ounces, .ref r_deepOf, .int sc, .ref r_factor, .ref r_otherOf, .ref r_isApart, g_apartX, g_apartY, .int cc, .ref r_weight, .ref r_tape, .int n, .int p, .int lim, .int fi, g_crossOf, g_trueX, g_trueY, g_thoughtX, g_thoughtY, g_poundHole, g_poundOunces, g_lead, g_trials, g_trialSpeed, g_isWhole, g_trialX, g_trialY, g_trialGive, g_trialLead, g_baseX, g_baseY, g_timesPull, g_trialBaseX, g_trialBaseY, g_trialTimes, g_pulls, g_pullMany, g_sizes, g_merged, g_nextHole, g_nextOunces, g_leftBehind, g_manUp, g_manLow, g_asked, g_lowOf, g_highOf, g_tried, g_found, g_askedMany, g_mostHoles, g_isFound, g_foundRest, g_foundOunces, g_question, g_questionSpeed, g_ounceRest, g_parts, g_filled, g_cogAt, g_cogBest, g_isOrdered, g_orderSize, g_isKept, g_kept, g_keptAt])]) rfl (by decide) (by decide) ?_
  rintro _ _ ⟨rfl, rfl⟩
  refine Z.at (pc' := 13) (st' := [.int (zb (decide (0 ≤ ai ∧ ai ≤ ((hci - 1)))))]) (ws' := [(mo, ob 11 [.int th, g_rows, g_row, .int hc, .ref r_planeOf, .ref r_holeX, .ref r_holeY, .ref r_room, .ref r_ounces, .ref r_deepOf, .int sc, .ref r_factor, .ref r_otherOf, .ref r_isApart, g_apartX, g_apartY, .int cc, .ref r_weight, .ref r_tape, .int n, .int p, .int lim, .int fi, g_crossOf, g_trueX, g_trueY, g_thoughtX, g_thoughtY, g_poundHole, g_poundOunces, g_lead, g_trials, g_trialSpeed, g_isWhole, g_trialX, g_trialY, g_trialGive, g_trialLead, g_baseX, g_baseY, g_timesPull, g_trialBaseX, g_trialBaseY, g_trialTimes, g_pulls, g_pullMany, g_sizes, g_merged, g_nextHole, g_nextOunces, g_leftBehind, g_manUp, g_manLow, g_asked, g_lowOf, g_highOf, g_tried, g_found, g_askedMany, g_mostHoles, g_isFound, g_foundRest, g_foundOunces, g_question, g_questionSpeed, g_ounceRest, g_parts, g_filled, g_cogAt, g_cogBest, g_isOrdered, g_orderSize, g_isKept, g_kept, g_keptAt])]) (kc' := 0) (ks' := 0) rfl rfl rfl rfl rfl ?_
  exact z_zret X rfl (zb_n _) dq_X11_isHole_13 (Nat.le_of_ble_eq_true rfl) (Nat.le_of_ble_eq_true rfl) ⟨(congrArg (fun z => some (Value.int z)) (zb_i (by omega))), rfl⟩

theorem dq_X11_deep_2 : decode cX11_deep 2 = .ok (.putfield 3, 3) := by decide +kernel
theorem dq_X11_deep_7 : decode cX11_deep 7 = .ok (.invokevirtual 115, 3) := by decide +kernel
theorem dq_X11_deep_10 : decode cX11_deep 10 = .ok (.ifCond .eq 15, 3) := by decide +kernel
theorem dq_X11_deep_26 : decode cX11_deep 26 = .ok (.ireturn, 1) := by decide +kernel
theorem dq_X11_deep_16 : decode cX11_deep 16 = .ok (.ldc2_w 120, 3) := by decide +kernel
theorem dq_X11_deep_19 : decode cX11_deep 19 = .ok (.invokestatic 29, 3) := by decide +kernel
theorem dq_X11_deep_22 : decode cX11_deep 22 = .ok (.ifCond .ne 5, 3) := by decide +kernel
theorem dq_X11_deep_28 : decode cX11_deep 28 = .ok (.getfield 85, 3) := by decide +kernel
theorem dq_X11_deep_32 : decode cX11_deep 32 = .ok (.iaload, 1) := by decide +kernel
theorem dq_X11_deep_35 : decode cX11_deep 35 = .ok (.getfield 85, 3) := by decide +kernel
theorem dq_X11_deep_40 : decode cX11_deep 40 = .ok (.iastore, 1) := by decide +kernel
theorem dq_X11_deep_42 : decode cX11_deep 42 = .ok (.ireturn, 1) := by decide +kernel
abbrev bq_X11_deep_0_2 : ZB := [(.aload_n 0, .null), (.iconst 0, .int 0)]
theorem kq_X11_deep_0_2 : zchk cX11_deep bq_X11_deep_0_2 0 = true ∧ zpc bq_X11_deep_0_2 0 = 2 := ⟨by decide +kernel, rfl⟩
abbrev bq_X11_deep_5_7 : ZB := [(.aload_n 0, .null), (.iload_n 1, .null)]
theorem kq_X11_deep_5_7 : zchk cX11_deep bq_X11_deep_5_7 5 = true ∧ zpc bq_X11_deep_5_7 5 = 7 := ⟨by decide +kernel, rfl⟩
abbrev bq_X11_deep_25_26 : ZB := [(.iconst (-1), .int (-1))]
theorem kq_X11_deep_25_26 : zchk cX11_deep bq_X11_deep_25_26 25 = true ∧ zpc bq_X11_deep_25_26 25 = 26 := ⟨by decide +kernel, rfl⟩
abbrev bq_X11_deep_13_16 : ZB := [(.iload_n 2, .null), (.i2l, .null), (.lconst 0, .long 0)]
theorem kq_X11_deep_13_16 : zchk cX11_deep bq_X11_deep_13_16 13 = true ∧ zpc bq_X11_deep_13_16 13 = 16 := ⟨by decide +kernel, rfl⟩
abbrev bq_X11_deep_27_28 : ZB := [(.aload_n 0, .null)]
theorem kq_X11_deep_27_28 : zchk cX11_deep bq_X11_deep_27_28 27 = true ∧ zpc bq_X11_deep_27_28 27 = 28 := ⟨by decide +kernel, rfl⟩
abbrev bq_X11_deep_31_32 : ZB := [(.iload_n 1, .null)]
theorem kq_X11_deep_31_32 : zchk cX11_deep bq_X11_deep_31_32 31 = true ∧ zpc bq_X11_deep_31_32 31 = 32 := ⟨by decide +kernel, rfl⟩
abbrev bq_X11_deep_33_35 : ZB := [(.istore_n 3, .null), (.aload_n 0, .null)]
theorem kq_X11_deep_33_35 : zchk cX11_deep bq_X11_deep_33_35 33 = true ∧ zpc bq_X11_deep_33_35 33 = 35 := ⟨by decide +kernel, rfl⟩
abbrev bq_X11_deep_38_40 : ZB := [(.iload_n 1, .null), (.iload_n 2, .null)]
theorem kq_X11_deep_38_40 : zchk cX11_deep bq_X11_deep_38_40 38 = true ∧ zpc bq_X11_deep_38_40 38 = 40 := ⟨by decide +kernel, rfl⟩
abbrev bq_X11_deep_41_42 : ZB := [(.iload_n 3, .null)]
theorem kq_X11_deep_41_42 : zchk cX11_deep bq_X11_deep_41_42 41 = true ∧ zpc bq_X11_deep_41_42 41 = 42 := ⟨by decide +kernel, rfl⟩
set_option maxHeartbeats 4000000 in
set_option maxRecDepth 100000 in
theorem cq_X11_deep (l : Launch) (G : KG) (mo : Nat) (th : Int32) (g_rows : Value) (g_row : Value) (hc : Int32) (r_planeOf : Nat) (r_holeX : Nat) (r_holeY : Nat) (r_room : Nat) (r_ounces : Nat) (r_deepOf : Nat) (sc : Int32) (r_factor : Nat) (r_otherOf : Nat) (r_isApart : Nat) (g_apartX : Value) (g_apartY : Value) (cc : Int32) (r_weight : Nat) (r_tape : Nat) (n : Int32) (p : Int32) (lim : Int32) (fi : Int32) (g_crossOf : Value) (g_trueX : Value) (g_trueY : Value) (g_thoughtX : Value) (g_thoughtY : Value) (g_poundHole : Value) (g_poundOunces : Value) (g_lead : Value) (g_trials : Value) (g_trialSpeed : Value) (g_isWhole : Value) (g_trialX : Value) (g_trialY : Value) (g_trialGive : Value) (g_trialLead : Value) (g_baseX : Value) (g_baseY : Value) (g_timesPull : Value) (g_trialBaseX : Value) (g_trialBaseY : Value) (g_trialTimes : Value) (g_pulls : Value) (g_pullMany : Value) (g_sizes : Value) (g_merged : Value) (g_nextHole : Value) (g_nextOunces : Value) (g_leftBehind : Value) (g_manUp : Value) (g_manLow : Value) (g_asked : Value) (g_lowOf : Value) (g_highOf : Value) (g_tried : Value) (g_found : Value) (g_askedMany : Value) (g_mostHoles : Value) (g_isFound : Value) (g_foundRest : Value) (g_foundOunces : Value) (g_question : Value) (g_questionSpeed : Value) (g_ounceRest : Value) (g_parts : Value) (g_filled : Value) (g_cogAt : Value) (g_cogBest : Value) (g_isOrdered : Value) (g_orderSize : Value) (g_isKept : Value) (g_kept : Value) (g_keptAt : Value) (fd : Nat → Int32) (a : Int32) (v : Int32) (hci : Int) (ai : Int) (vi : Int) (hhc : hc.toInt = hci) (ha : a.toInt = ai) (hv : v.toInt = vi) (hc0 : 0 ≤ hci ∧ hci ≤ 16) : Ct l G yX11_deep cX11_deep 4 (some .int) { frames := 2, cells := 0, slots := 0, locals := 46 } [.ref mo, .int a, .int v] [(mo, ob 11 [.int th, g_rows, g_row, .int hc, .ref r_planeOf, .ref r_holeX, .ref r_holeY, .ref r_room, .ref r_ounces, .ref r_deepOf, .int sc, .ref r_factor, .ref r_otherOf, .ref r_isApart, g_apartX, g_apartY, .int cc, .ref r_weight, .ref r_tape, .int n, .int p, .int lim, .int fi, g_crossOf, g_trueX, g_trueY, g_thoughtX, g_thoughtY, g_poundHole, g_poundOunces, g_lead, g_trials, g_trialSpeed, g_isWhole, g_trialX, g_trialY, g_trialGive, g_trialLead, g_baseX, g_baseY, g_timesPull, g_trialBaseX, g_trialBaseY, g_trialTimes, g_pulls, g_pullMany, g_sizes, g_merged, g_nextHole, g_nextOunces, g_leftBehind, g_manUp, g_manLow, g_asked, g_lowOf, g_highOf, g_tried, g_found, g_askedMany, g_mostHoles, g_isFound, g_foundRest, g_foundOunces, g_question, g_questionSpeed, g_ounceRest, g_parts, g_filled, g_cogAt, g_cogBest, g_isOrdered, g_orderSize, g_isKept, g_kept, g_keptAt]), (r_deepOf, aI G 16 fd)] (fun r w1 => ∃ (rz : Int32), ∃ (fd2 : Nat → Int32), (rz = (mDeep hci fd a v).1) ∧ (fd2 = (mDeep hci fd a v).2) ∧ r = some (.int rz) ∧ w1 = [(mo, ob 11 [.int (0 : Int32), g_rows, g_row, .int hc, .ref r_planeOf, .ref r_holeX, .ref r_holeY, .ref r_room, .ref r_ounces, .ref r_deepOf, .int sc, .ref r_factor, .ref r_otherOf, .ref r_isApart, g_apartX, g_apartY, .int cc, .ref r_weight, .ref r_tape, .int n, .int p, .int lim, .int fi, g_crossOf, g_trueX, g_trueY, g_thoughtX, g_thoughtY, g_poundHole, g_poundOunces, g_lead, g_trials, g_trialSpeed, g_isWhole, g_trialX, g_trialY, g_trialGive, g_trialLead, g_baseX, g_baseY, g_timesPull, g_trialBaseX, g_trialBaseY, g_trialTimes, g_pulls, g_pullMany, g_sizes, g_merged, g_nextHole, g_nextOunces, g_leftBehind, g_manUp, g_manLow, g_asked, g_lowOf, g_highOf, g_tried, g_found, g_askedMany, g_mostHoles, g_isFound, g_foundRest, g_foundOunces, g_question, g_questionSpeed, g_ounceRest, g_parts, g_filled, g_cogAt, g_cogBest, g_isOrdered, g_orderSize, g_isKept, g_kept, g_keptAt]), (r_deepOf, aI G 16 fd2)]) := by
  refine ct_of [(0, .ref mo), (1, .int a), (2, .int v)] (by decide) (Nat.le_of_ble_eq_true rfl) rfl ?_
  intro p0 e0 s0 m0 args0 below0 meth0 c0 A X
  refine z_run X bq_X11_deep_0_2 kq_X11_deep_0_2 (lv' := [(0, .ref mo), (1, .int a), (2, .int v)]) (st' := [.int 0, .ref mo]) rfl ?_
  refine z_put X fl_11_3 dq_X11_deep_2 0 rfl (ty := .int) (T := TX11) (N := 75) rfl (Or.inl rfl) (by decide +kernel) rfl (by rfl) (Nat.le_of_ble_eq_true rfl) (ws' := [(mo, ob 11 [.int 0, g_rows, g_row, .int hc, .ref r_planeOf, .ref r_holeX, .ref r_holeY, .ref r_room, .ref r_ounces, .ref r_deepOf, .int sc, .ref r_factor, .ref r_otherOf, .ref r_isApart, g_apartX, g_apartY, .int cc, .ref r_weight, .ref r_tape, .int n, .int p, .int lim, .int fi, g_crossOf, g_trueX, g_trueY, g_thoughtX, g_thoughtY, g_poundHole, g_poundOunces, g_lead, g_trials, g_trialSpeed, g_isWhole, g_trialX, g_trialY, g_trialGive, g_trialLead, g_baseX, g_baseY, g_timesPull, g_trialBaseX, g_trialBaseY, g_trialTimes, g_pulls, g_pullMany, g_sizes, g_merged, g_nextHole, g_nextOunces, g_leftBehind, g_manUp, g_manLow, g_asked, g_lowOf, g_highOf, g_tried, g_found, g_askedMany, g_mostHoles, g_isFound, g_foundRest, g_foundOunces, g_question, g_questionSpeed, g_ounceRest, g_parts, g_filled, g_cogAt, g_cogBest, g_isOrdered, g_orderSize, g_isKept, g_kept, g_keptAt]), (r_deepOf, aI G 16 fd)]) rfl ?_
  refine z_run X bq_X11_deep_5_7 kq_X11_deep_5_7 (lv' := [(0, .ref mo), (1, .int a), (2, .int v)]) (st' := [.int a, .ref mo]) rfl ?_
  refine z_callV X k_11_115 (cq_X11_isHole l G mo 0 g_rows g_row hc r_planeOf r_holeX r_holeY r_room r_ounces r_deepOf sc r_factor r_otherOf r_isApart g_apartX g_apartY cc r_weight r_tape n p lim fi g_crossOf g_trueX g_trueY g_thoughtX g_thoughtY g_poundHole g_poundOunces g_lead g_trials g_trialSpeed g_isWhole g_trialX g_trialY g_trialGive g_trialLead g_baseX g_baseY g_timesPull g_trialBaseX g_trialBaseY g_trialTimes g_pulls g_pullMany g_sizes g_merged g_nextHole g_nextOunces g_leftBehind g_manUp g_manLow g_asked g_lowOf g_highOf g_tried g_found g_askedMany g_mostHoles g_isFound g_foundRest g_foundOunces g_question g_questionSpeed g_ounceRest g_parts g_filled g_cogAt g_cogBest g_isOrdered g_orderSize g_isKept g_kept g_keptAt a hci ai hhc ha (by omega)) dq_X11_deep_7 0 rfl rfl rfl ⟨Nat.le_of_ble_eq_true rfl, Nat.le_of_ble_eq_true rfl⟩ ⟨Nat.le_of_ble_eq_true rfl, Nat.le_of_ble_eq_true rfl⟩ rfl (rest := []) (As := [.int a]) rfl (Nat.le_of_ble_eq_true rfl) [0] [1] rfl (by decide) (wr := [(r_deepOf, aI G 16 fd)]) rfl (by decide) (by decide) ?_
  rintro _ _ ⟨rfl, rfl⟩
  refine Z.at (pc' := 10) (st' := [.int (zb (decide (0 ≤ ai ∧ ai < hci)))]) (ws' := [(r_deepOf, aI G 16 fd), (mo, ob 11 [.int 0, g_rows, g_row, .int hc, .ref r_planeOf, .ref r_holeX, .ref r_holeY, .ref r_room, .ref r_ounces, .ref r_deepOf, .int sc, .ref r_factor, .ref r_otherOf, .ref r_isApart, g_apartX, g_apartY, .int cc, .ref r_weight, .ref r_tape, .int n, .int p, .int lim, .int fi, g_crossOf, g_trueX, g_trueY, g_thoughtX, g_thoughtY, g_poundHole, g_poundOunces, g_lead, g_trials, g_trialSpeed, g_isWhole, g_trialX, g_trialY, g_trialGive, g_trialLead, g_baseX, g_baseY, g_timesPull, g_trialBaseX, g_trialBaseY, g_trialTimes, g_pulls, g_pullMany, g_sizes, g_merged, g_nextHole, g_nextOunces, g_leftBehind, g_manUp, g_manLow, g_asked, g_lowOf, g_highOf, g_tried, g_found, g_askedMany, g_mostHoles, g_isFound, g_foundRest, g_foundOunces, g_question, g_questionSpeed, g_ounceRest, g_parts, g_filled, g_cogAt, g_cogBest, g_isOrdered, g_orderSize, g_isKept, g_kept, g_keptAt])]) (kc' := 0) (ks' := 0) rfl rfl rfl rfl rfl ?_
  refine zi_eq_zb X dq_X11_deep_10 (tgt := 25) (by decide) (fun c10_1 => ?_) (fun c10_1 => ?_)
  ·
    refine z_run X bq_X11_deep_25_26 kq_X11_deep_25_26 (lv' := [(0, .ref mo), (1, .int a), (2, .int v)]) (st' := [.int (-1)]) rfl ?_
    refine Z.sub (lv' := []) [] rfl [1, 0] (ws' := [(mo, ob 11 [.int 0, g_rows, g_row, .int hc, .ref r_planeOf, .ref r_holeX, .ref r_holeY, .ref r_room, .ref r_ounces, .ref r_deepOf, .int sc, .ref r_factor, .ref r_otherOf, .ref r_isApart, g_apartX, g_apartY, .int cc, .ref r_weight, .ref r_tape, .int n, .int p, .int lim, .int fi, g_crossOf, g_trueX, g_trueY, g_thoughtX, g_thoughtY, g_poundHole, g_poundOunces, g_lead, g_trials, g_trialSpeed, g_isWhole, g_trialX, g_trialY, g_trialGive, g_trialLead, g_baseX, g_baseY, g_timesPull, g_trialBaseX, g_trialBaseY, g_trialTimes, g_pulls, g_pullMany, g_sizes, g_merged, g_nextHole, g_nextOunces, g_leftBehind, g_manUp, g_manLow, g_asked, g_lowOf, g_highOf, g_tried, g_found, g_askedMany, g_mostHoles, g_isFound, g_foundRest, g_foundOunces, g_question, g_questionSpeed, g_ounceRest, g_parts, g_filled, g_cogAt, g_cogBest, g_isOrdered, g_orderSize, g_isKept, g_kept, g_keptAt]), (r_deepOf, aI G 16 fd)]) rfl (by decide) ?_
    exact z_iret X rfl dq_X11_deep_26 (Nat.le_of_ble_eq_true rfl) (Nat.le_of_ble_eq_true rfl) ⟨(-1), fd, (by unfold mDeep; first | rw [if_pos (by omega)] | rw [if_neg (by omega)]), (by unfold mDeep; first | rw [if_pos (by omega)] | rw [if_neg (by omega)]), rfl, rfl⟩
  ·
    refine z_run X bq_X11_deep_13_16 kq_X11_deep_13_16 (lv' := [(0, .ref mo), (1, .int a), (2, .int v)]) (st' := [.long 0, .long v.toInt64]) rfl ?_
    refine z_ldc2 X dq_X11_deep_16 cn_11_120 ?_
    refine z_callS X k_11_29 (cm_X11_in l G v.toInt64 0 9 vi 0 9 (tI64 hv) (show (0 : Int64).toInt = 0 from by decide) (show (9 : Int64).toInt = 9 from by decide)) dq_X11_deep_19 ⟨Nat.le_of_ble_eq_true rfl, Nat.le_of_ble_eq_true rfl⟩ ⟨Nat.le_of_ble_eq_true rfl, Nat.le_of_ble_eq_true rfl⟩ rfl (rest := []) (As := [.long v.toInt64, .long 0, .long 9]) rfl (Nat.le_of_ble_eq_true rfl) [] [0, 1] rfl (by decide) (wr := [(r_deepOf, aI G 16 fd), (mo, ob 11 [.int 0, g_rows, g_row, .int hc, .ref r_planeOf, .ref r_holeX, .ref r_holeY, .ref r_room, .ref r_ounces, .ref r_deepOf, .int sc, .ref r_factor, .ref r_otherOf, .ref r_isApart, g_apartX, g_apartY, .int cc, .ref r_weight, .ref r_tape, .int n, .int p, .int lim, .int fi, g_crossOf, g_trueX, g_trueY, g_thoughtX, g_thoughtY, g_poundHole, g_poundOunces, g_lead, g_trials, g_trialSpeed, g_isWhole, g_trialX, g_trialY, g_trialGive, g_trialLead, g_baseX, g_baseY, g_timesPull, g_trialBaseX, g_trialBaseY, g_trialTimes, g_pulls, g_pullMany, g_sizes, g_merged, g_nextHole, g_nextOunces, g_leftBehind, g_manUp, g_manLow, g_asked, g_lowOf, g_highOf, g_tried, g_found, g_askedMany, g_mostHoles, g_isFound, g_foundRest, g_foundOunces, g_question, g_questionSpeed, g_ounceRest, g_parts, g_filled, g_cogAt, g_cogBest, g_isOrdered, g_orderSize, g_isKept, g_kept, g_keptAt])]) rfl (by decide) (by decide) ?_
    rintro _ _ ⟨rfl, rfl⟩
    refine Z.at (pc' := 22) (st' := [.int (zb (decide (0 ≤ vi ∧ vi ≤ 9)))]) (ws' := [(r_deepOf, aI G 16 fd), (mo, ob 11 [.int 0, g_rows, g_row, .int hc, .ref r_planeOf, .ref r_holeX, .ref r_holeY, .ref r_room, .ref r_ounces, .ref r_deepOf, .int sc, .ref r_factor, .ref r_otherOf, .ref r_isApart, g_apartX, g_apartY, .int cc, .ref r_weight, .ref r_tape, .int n, .int p, .int lim, .int fi, g_crossOf, g_trueX, g_trueY, g_thoughtX, g_thoughtY, g_poundHole, g_poundOunces, g_lead, g_trials, g_trialSpeed, g_isWhole, g_trialX, g_trialY, g_trialGive, g_trialLead, g_baseX, g_baseY, g_timesPull, g_trialBaseX, g_trialBaseY, g_trialTimes, g_pulls, g_pullMany, g_sizes, g_merged, g_nextHole, g_nextOunces, g_leftBehind, g_manUp, g_manLow, g_asked, g_lowOf, g_highOf, g_tried, g_found, g_askedMany, g_mostHoles, g_isFound, g_foundRest, g_foundOunces, g_question, g_questionSpeed, g_ounceRest, g_parts, g_filled, g_cogAt, g_cogBest, g_isOrdered, g_orderSize, g_isKept, g_kept, g_keptAt])]) (kc' := 0) (ks' := 0) rfl rfl rfl rfl rfl ?_
    refine zi_ne_zb X dq_X11_deep_22 (tgt := 27) (by decide) (fun c22_2 => ?_) (fun c22_2 => ?_)
    ·
      refine z_run X bq_X11_deep_27_28 kq_X11_deep_27_28 (lv' := [(0, .ref mo), (1, .int a), (2, .int v)]) (st' := [.ref mo]) rfl ?_
      refine z_get X fl_11_85 dq_X11_deep_28 1 rfl (v := .ref r_deepOf) rfl ?_
      refine z_run X bq_X11_deep_31_32 kq_X11_deep_31_32 (lv' := [(0, .ref mo), (1, .int a), (2, .int v)]) (st' := [.int a, .ref r_deepOf]) rfl ?_
      refine z_iald X dq_X11_deep_32 0 rfl (vin ha (by omega) (by omega)) (v := (fd a.toNatClampNeg)) rfl ?_
      refine z_run X bq_X11_deep_33_35 kq_X11_deep_33_35 (lv' := [(3, .int (fd a.toNatClampNeg)), (0, .ref mo), (1, .int a), (2, .int v)]) (st' := [.ref mo]) rfl ?_
      refine z_get X fl_11_85 dq_X11_deep_35 1 rfl (v := .ref r_deepOf) rfl ?_
      refine z_run X bq_X11_deep_38_40 kq_X11_deep_38_40 (lv' := [(3, .int (fd a.toNatClampNeg)), (0, .ref mo), (1, .int a), (2, .int v)]) (st' := [.int v, .int a, .ref r_deepOf]) rfl ?_
      refine z_iast X dq_X11_deep_40 0 rfl (vin ha (by omega) (by omega)) (ws' := [(r_deepOf, aI G 16 (upd fd a.toNatClampNeg v)), (mo, ob 11 [.int 0, g_rows, g_row, .int hc, .ref r_planeOf, .ref r_holeX, .ref r_holeY, .ref r_room, .ref r_ounces, .ref r_deepOf, .int sc, .ref r_factor, .ref r_otherOf, .ref r_isApart, g_apartX, g_apartY, .int cc, .ref r_weight, .ref r_tape, .int n, .int p, .int lim, .int fi, g_crossOf, g_trueX, g_trueY, g_thoughtX, g_thoughtY, g_poundHole, g_poundOunces, g_lead, g_trials, g_trialSpeed, g_isWhole, g_trialX, g_trialY, g_trialGive, g_trialLead, g_baseX, g_baseY, g_timesPull, g_trialBaseX, g_trialBaseY, g_trialTimes, g_pulls, g_pullMany, g_sizes, g_merged, g_nextHole, g_nextOunces, g_leftBehind, g_manUp, g_manLow, g_asked, g_lowOf, g_highOf, g_tried, g_found, g_askedMany, g_mostHoles, g_isFound, g_foundRest, g_foundOunces, g_question, g_questionSpeed, g_ounceRest, g_parts, g_filled, g_cogAt, g_cogBest, g_isOrdered, g_orderSize, g_isKept, g_kept, g_keptAt])]) rfl ?_
      refine z_run X bq_X11_deep_41_42 kq_X11_deep_41_42 (lv' := [(3, .int (fd a.toNatClampNeg)), (0, .ref mo), (1, .int a), (2, .int v)]) (st' := [.int (fd a.toNatClampNeg)]) rfl ?_
      refine Z.sub (lv' := []) [] rfl [1, 0] (ws' := [(mo, ob 11 [.int 0, g_rows, g_row, .int hc, .ref r_planeOf, .ref r_holeX, .ref r_holeY, .ref r_room, .ref r_ounces, .ref r_deepOf, .int sc, .ref r_factor, .ref r_otherOf, .ref r_isApart, g_apartX, g_apartY, .int cc, .ref r_weight, .ref r_tape, .int n, .int p, .int lim, .int fi, g_crossOf, g_trueX, g_trueY, g_thoughtX, g_thoughtY, g_poundHole, g_poundOunces, g_lead, g_trials, g_trialSpeed, g_isWhole, g_trialX, g_trialY, g_trialGive, g_trialLead, g_baseX, g_baseY, g_timesPull, g_trialBaseX, g_trialBaseY, g_trialTimes, g_pulls, g_pullMany, g_sizes, g_merged, g_nextHole, g_nextOunces, g_leftBehind, g_manUp, g_manLow, g_asked, g_lowOf, g_highOf, g_tried, g_found, g_askedMany, g_mostHoles, g_isFound, g_foundRest, g_foundOunces, g_question, g_questionSpeed, g_ounceRest, g_parts, g_filled, g_cogAt, g_cogBest, g_isOrdered, g_orderSize, g_isKept, g_kept, g_keptAt]), (r_deepOf, aI G 16 (upd fd a.toNatClampNeg v))]) rfl (by decide) ?_
      exact z_iret X rfl dq_X11_deep_42 (Nat.le_of_ble_eq_true rfl) (Nat.le_of_ble_eq_true rfl) ⟨(fd a.toNatClampNeg), (upd fd a.toNatClampNeg v), (by unfold mDeep; first | rw [if_pos (by omega)] | rw [if_neg (by omega)]), (by unfold mDeep; first | rw [if_pos (by omega)] | rw [if_neg (by omega)]), rfl, rfl⟩
    ·
      refine z_run X bq_X11_deep_25_26 kq_X11_deep_25_26 (lv' := [(0, .ref mo), (1, .int a), (2, .int v)]) (st' := [.int (-1)]) rfl ?_
      refine Z.sub (lv' := []) [] rfl [1, 0] (ws' := [(mo, ob 11 [.int 0, g_rows, g_row, .int hc, .ref r_planeOf, .ref r_holeX, .ref r_holeY, .ref r_room, .ref r_ounces, .ref r_deepOf, .int sc, .ref r_factor, .ref r_otherOf, .ref r_isApart, g_apartX, g_apartY, .int cc, .ref r_weight, .ref r_tape, .int n, .int p, .int lim, .int fi, g_crossOf, g_trueX, g_trueY, g_thoughtX, g_thoughtY, g_poundHole, g_poundOunces, g_lead, g_trials, g_trialSpeed, g_isWhole, g_trialX, g_trialY, g_trialGive, g_trialLead, g_baseX, g_baseY, g_timesPull, g_trialBaseX, g_trialBaseY, g_trialTimes, g_pulls, g_pullMany, g_sizes, g_merged, g_nextHole, g_nextOunces, g_leftBehind, g_manUp, g_manLow, g_asked, g_lowOf, g_highOf, g_tried, g_found, g_askedMany, g_mostHoles, g_isFound, g_foundRest, g_foundOunces, g_question, g_questionSpeed, g_ounceRest, g_parts, g_filled, g_cogAt, g_cogBest, g_isOrdered, g_orderSize, g_isKept, g_kept, g_keptAt]), (r_deepOf, aI G 16 fd)]) rfl (by decide) ?_
      exact z_iret X rfl dq_X11_deep_26 (Nat.le_of_ble_eq_true rfl) (Nat.le_of_ble_eq_true rfl) ⟨(-1), fd, (by unfold mDeep; first | rw [if_pos (by omega)] | rw [if_neg (by omega)]), (by unfold mDeep; first | rw [if_pos (by omega)] | rw [if_neg (by omega)]), rfl, rfl⟩

set_option maxHeartbeats 4000000 in
set_option maxRecDepth 100000 in
theorem ac_dpx (l : Launch) (G : KG) {ad : Nat → Nat} {w0 : va_W} {h a v : Int32} {d : Nat → Int32} (hW : WT G ad TX w0) (eh : fget w0 5 0 = some (.int h)) (ed : cget w0 11 0 = some (.inr (cyI G, 16, .inl d))) : Ct l G yX10_deep cX10_deep 4 (some .int) { frames := 1, cells := 0, slots := 0, locals := 21 } [.ref (ad 0), .int a, .int v] w0 (fun r w1 => WT G ad TX w1 ∧ FRM C_X10_deep_0.2.2.2.2.1 w0 w1 ∧ (r = some (.int (mDeep h.toInt d a v).1) ∧ CQ G w1 11 16 (mDeep h.toInt d a v).2)) := by
  obtain ⟨g0, q0, t0⟩ := WT.tab hW (k := 0) rfl
  have r0_2 : g0 2 = .ref (ad 5) := vty2 (t0 2 _ rfl).1 rfl
  have c0 : w0[0]? = some ((ad 0), ob 10 [(g0 0), (g0 1), .ref (ad 5), (g0 3), (g0 4), (g0 5), (g0 6), (g0 7), (g0 8), (g0 9), (g0 10), (g0 11), (g0 12), (g0 13), (g0 14), (g0 15)]) := by
    rw [q0]
    show some (ad 0, ob 10 [g0 0, g0 1, g0 2, g0 3, g0 4, g0 5, g0 6, g0 7, g0 8, g0 9, g0 10, g0 11, g0 12, g0 13, g0 14, g0 15]) = _
    rw [r0_2]
  obtain ⟨g5, q5, t5⟩ := WT.tab hW (k := 5) rfl
  have r5_0 : g5 0 = .int h := Option.some.inj ((t5 0 _ rfl).2.symm.trans eh)
  have b5_0 : 0 ≤ h.toInt ∧ h.toInt ≤ 16 := by
    have h := (t5 0 _ rfl).1
    rw [r5_0] at h
    obtain ⟨y, e, l1, u1⟩ := vty0 h rfl
    obtain rfl := Value.int.inj e
    exact ⟨l1, u1⟩
  have r5_6 : g5 6 = .ref (ad 11) := vty2 (t5 6 _ rfl).1 rfl
  have c5 : w0[5]? = some ((ad 5), ob 5 [.int h, (g5 1), (g5 2), (g5 3), (g5 4), (g5 5), .ref (ad 11), (g5 7), (g5 8)]) := by
    rw [q5]
    show some (ad 5, ob 5 [g5 0, g5 1, g5 2, g5 3, g5 4, g5 5, g5 6, g5 7, g5 8]) = _
    rw [r5_0, r5_6]
  obtain ⟨f11, c11, -⟩ := WT.ints hW (k := 11) rfl
  have ef11 : f11 = d := arrinj ((cgetI c11 0).symm.trans ed)
  rw [ef11] at c11
  have h2 := cq_X10_deep l G (ad 0) (g0 0) (g0 1) (ad 5) (g0 3) (g0 4) (g0 5) (g0 6) (g0 7) (g0 8) (g0 9) (g0 10) (g0 11) (g0 12) (g0 13) (g0 14) (g0 15) (ad 5) h (g5 1) (g5 2) (g5 3) (g5 4) (g5 5) (ad 11) (g5 7) (g5 8) d a v h.toInt a.toInt v.toInt rfl rfl rfl (by omega)
  refine Ct.weak (Ct.and (show Ct l G yX10_deep cX10_deep 4 (some .int) { frames := 1, cells := 0, slots := 0, locals := 21 } [.ref (ad 0), .int a, .int v] w0 (fun r w1 => POST G ad TX C_X10_deep_0 (fun k => ((Value.ref (ad 0) :: [.int a, .int v])[k]?).getD .null) w0 r w1) from ac_X10_deep_0 l G ad w0 _ hW (pre_mu (C := C_X10_deep_0) (ts := [tI0, tI0]) (As := [.int a, .int v]) rfl rfl rfl rfl ⟨fun _ => vty_i0 _, fun _ => vty_i0 _, trivial⟩ ad w0 rfl)) h2 [0, 5, 11] (pk_cons c0 (pk_cons c5 (pk_cons c11 rfl))) (by decide)) ?_
  rintro r w1 ⟨hp, w2, ⟨rz, fd2, hr, hd, rfl, rfl⟩, hS⟩
  obtain ⟨A1, hA1, μ2, -, -, -, -, -, -, hW1, hF1⟩ := hp
  obtain ⟨fs0, -, u0, ul0, -, -⟩ := WT.obj hW1 (k := 0) (j := 0) rfl rfl
  obtain ⟨fs5, -, u5, ul5, -, -⟩ := WT.obj hW1 (k := 5) (j := 0) rfl rfl
  obtain ⟨p11, u11, -⟩ := WT.ints hW1 (k := 11) rfl
  exact ⟨hW1, hF1, by rw [hr], p11, cgetI u11 0, fun k hk => by rw [← hd]; exact (same_I hS (k := 11) (j := 2) u11 rfl) k hk⟩
set_option maxHeartbeats 4000000 in
set_option maxRecDepth 100000 in
theorem ac_dpm (l : Launch) (G : KG) {ad : Nat → Nat} {w0 : va_W} {h a v : Int32} {d : Nat → Int32} (hW : WT G ad TM w0) (eh : fget w0 0 3 = some (.int h)) (ed : cget w0 7 0 = some (.inr (cyI G, 16, .inl d))) : Ct l G yX11_deep cX11_deep 4 (some .int) { frames := 2, cells := 0, slots := 0, locals := 46 } [.ref (ad 0), .int a, .int v] w0 (fun r w1 => WT G ad TM w1 ∧ FRM C_X11_deep_0.2.2.2.2.1 w0 w1 ∧ (r = some (.int (mDeep h.toInt d a v).1) ∧ CQ G w1 7 16 (mDeep h.toInt d a v).2)) := by
  obtain ⟨g0, q0, t0⟩ := WT.tab hW (k := 0) rfl
  obtain ⟨y0_0, r0_0, -, -⟩ := vty0 (t0 0 _ rfl).1 rfl
  have r0_3 : g0 3 = .int h := Option.some.inj ((t0 3 _ rfl).2.symm.trans eh)
  have b0_3 : 0 ≤ h.toInt ∧ h.toInt ≤ 16 := by
    have h := (t0 3 _ rfl).1
    rw [r0_3] at h
    obtain ⟨y, e, l1, u1⟩ := vty0 h rfl
    obtain rfl := Value.int.inj e
    exact ⟨l1, u1⟩
  have r0_4 : g0 4 = .ref (ad 2) := vty2 (t0 4 _ rfl).1 rfl
  have r0_5 : g0 5 = .ref (ad 3) := vty2 (t0 5 _ rfl).1 rfl
  have r0_6 : g0 6 = .ref (ad 4) := vty2 (t0 6 _ rfl).1 rfl
  have r0_7 : g0 7 = .ref (ad 5) := vty2 (t0 7 _ rfl).1 rfl
  have r0_8 : g0 8 = .ref (ad 6) := vty2 (t0 8 _ rfl).1 rfl
  have r0_9 : g0 9 = .ref (ad 7) := vty2 (t0 9 _ rfl).1 rfl
  obtain ⟨y0_10, r0_10, -, -⟩ := vty0 (t0 10 _ rfl).1 rfl
  have r0_11 : g0 11 = .ref (ad 8) := vty2 (t0 11 _ rfl).1 rfl
  have r0_12 : g0 12 = .ref (ad 9) := vty2 (t0 12 _ rfl).1 rfl
  have r0_13 : g0 13 = .ref (ad 10) := vty2 (t0 13 _ rfl).1 rfl
  obtain ⟨y0_16, r0_16, -, -⟩ := vty0 (t0 16 _ rfl).1 rfl
  have r0_17 : g0 17 = .ref (ad 13) := vty2 (t0 17 _ rfl).1 rfl
  have r0_18 : g0 18 = .ref (ad 14) := vty2 (t0 18 _ rfl).1 rfl
  obtain ⟨y0_19, r0_19, -, -⟩ := vty0 (t0 19 _ rfl).1 rfl
  obtain ⟨y0_20, r0_20, -, -⟩ := vty0 (t0 20 _ rfl).1 rfl
  obtain ⟨y0_21, r0_21, -, -⟩ := vty0 (t0 21 _ rfl).1 rfl
  obtain ⟨y0_22, r0_22, -, -⟩ := vty0 (t0 22 _ rfl).1 rfl
  have c0 : w0[0]? = some ((ad 0), ob 11 [.int y0_0, (g0 1), (g0 2), .int h, .ref (ad 2), .ref (ad 3), .ref (ad 4), .ref (ad 5), .ref (ad 6), .ref (ad 7), .int y0_10, .ref (ad 8), .ref (ad 9), .ref (ad 10), (g0 14), (g0 15), .int y0_16, .ref (ad 13), .ref (ad 14), .int y0_19, .int y0_20, .int y0_21, .int y0_22, (g0 23), (g0 24), (g0 25), (g0 26), (g0 27), (g0 28), (g0 29), (g0 30), (g0 31), (g0 32), (g0 33), (g0 34), (g0 35), (g0 36), (g0 37), (g0 38), (g0 39), (g0 40), (g0 41), (g0 42), (g0 43), (g0 44), (g0 45), (g0 46), (g0 47), (g0 48), (g0 49), (g0 50), (g0 51), (g0 52), (g0 53), (g0 54), (g0 55), (g0 56), (g0 57), (g0 58), (g0 59), (g0 60), (g0 61), (g0 62), (g0 63), (g0 64), (g0 65), (g0 66), (g0 67), (g0 68), (g0 69), (g0 70), (g0 71), (g0 72), (g0 73), (g0 74)]) := by
    rw [q0]
    show some (ad 0, ob 11 [g0 0, g0 1, g0 2, g0 3, g0 4, g0 5, g0 6, g0 7, g0 8, g0 9, g0 10, g0 11, g0 12, g0 13, g0 14, g0 15, g0 16, g0 17, g0 18, g0 19, g0 20, g0 21, g0 22, g0 23, g0 24, g0 25, g0 26, g0 27, g0 28, g0 29, g0 30, g0 31, g0 32, g0 33, g0 34, g0 35, g0 36, g0 37, g0 38, g0 39, g0 40, g0 41, g0 42, g0 43, g0 44, g0 45, g0 46, g0 47, g0 48, g0 49, g0 50, g0 51, g0 52, g0 53, g0 54, g0 55, g0 56, g0 57, g0 58, g0 59, g0 60, g0 61, g0 62, g0 63, g0 64, g0 65, g0 66, g0 67, g0 68, g0 69, g0 70, g0 71, g0 72, g0 73, g0 74]) = _
    rw [r0_0, r0_3, r0_4, r0_5, r0_6, r0_7, r0_8, r0_9, r0_10, r0_11, r0_12, r0_13, r0_16, r0_17, r0_18, r0_19, r0_20, r0_21, r0_22]
  obtain ⟨f7, c7, -⟩ := WT.ints hW (k := 7) rfl
  have ef7 : f7 = d := arrinj ((cgetI c7 0).symm.trans ed)
  rw [ef7] at c7
  have h2 := cq_X11_deep l G (ad 0) y0_0 (g0 1) (g0 2) h (ad 2) (ad 3) (ad 4) (ad 5) (ad 6) (ad 7) y0_10 (ad 8) (ad 9) (ad 10) (g0 14) (g0 15) y0_16 (ad 13) (ad 14) y0_19 y0_20 y0_21 y0_22 (g0 23) (g0 24) (g0 25) (g0 26) (g0 27) (g0 28) (g0 29) (g0 30) (g0 31) (g0 32) (g0 33) (g0 34) (g0 35) (g0 36) (g0 37) (g0 38) (g0 39) (g0 40) (g0 41) (g0 42) (g0 43) (g0 44) (g0 45) (g0 46) (g0 47) (g0 48) (g0 49) (g0 50) (g0 51) (g0 52) (g0 53) (g0 54) (g0 55) (g0 56) (g0 57) (g0 58) (g0 59) (g0 60) (g0 61) (g0 62) (g0 63) (g0 64) (g0 65) (g0 66) (g0 67) (g0 68) (g0 69) (g0 70) (g0 71) (g0 72) (g0 73) (g0 74) d a v h.toInt a.toInt v.toInt rfl rfl rfl (by omega)
  refine Ct.weak (Ct.and (show Ct l G yX11_deep cX11_deep 4 (some .int) { frames := 2, cells := 0, slots := 0, locals := 46 } [.ref (ad 0), .int a, .int v] w0 (fun r w1 => POST G ad TM C_X11_deep_0 (fun k => ((Value.ref (ad 0) :: [.int a, .int v])[k]?).getD .null) w0 r w1) from ac_X11_deep_0 l G ad w0 _ hW (pre_mu (C := C_X11_deep_0) (ts := [tI0, tI0]) (As := [.int a, .int v]) rfl rfl rfl rfl ⟨fun _ => vty_i0 _, fun _ => vty_i0 _, trivial⟩ ad w0 rfl)) h2 [0, 7] (pk_cons c0 (pk_cons c7 rfl)) (by decide)) ?_
  rintro r w1 ⟨hp, w2, ⟨rz, fd2, hr, hd, rfl, rfl⟩, hS⟩
  obtain ⟨A1, hA1, μ2, -, -, -, -, -, -, hW1, hF1⟩ := hp
  obtain ⟨fs0, -, u0, ul0, -, -⟩ := WT.obj hW1 (k := 0) (j := 0) rfl rfl
  obtain ⟨p7, u7, -⟩ := WT.ints hW1 (k := 7) rfl
  exact ⟨hW1, hF1, by rw [hr], p7, cgetI u7 0, fun k hk => by rw [← hd]; exact (same_I hS (k := 7) (j := 1) u7 rfl) k hk⟩
theorem RelD.deep {G : KG} {wx wm wx' wm' : va_W} {m m' : List (Nat × Nat)} {h a v v1 v2 : Int32} {d g : Nat → Int32} (hD : RelD G wx wm) (h1 : FX m 109 wx wx') (h2 : FX m' 47 wm wm') (hm : mkq m 5 0 = false) (hh : h.toInt ≤ 16) (he : fget wx 5 0 = some (.int h)) (hd : cget wx 11 0 = some (.inr (cyI G, 16, .inl d))) (hg : cget wm 7 0 = some (.inr (cyI G, 16, .inl g))) (A : (some (.int v1) : Option Value) = some (.int (mDeep h.toInt d a v).1) ∧ CQ G wx' 11 16 (mDeep h.toInt d a v).2) (B : (some (.int v2) : Option Value) = some (.int (mDeep h.toInt g a v).1) ∧ CQ G wm' 7 16 (mDeep h.toInt g a v).2) : v1 = v2 ∧ RelD G wx' wm' := by
  obtain ⟨h0, e0, ⟨d0, g0, k1, k2, k3⟩, q3, k4, k5⟩ := hD
  obtain rfl := some_int (he.symm.trans e0)
  obtain rfl := arrinj (hd.symm.trans k1)
  obtain rfl := arrinj (hg.symm.trans k2)
  obtain rfl := arrinj (hd.symm.trans k4)
  obtain ⟨A1, p, p1, p2⟩ := A
  obtain ⟨B1, q, q1, q2⟩ := B
  have A1 := some_int A1
  have B1 := some_int B1
  by_cases c : 0 ≤ a.toInt ∧ a.toInt < h.toInt ∧ 0 ≤ v.toInt ∧ v.toInt ≤ 9
  · have ea : ∀ z : Nat → Int32, mDeep h.toInt z a v = (z a.toNatClampNeg, upd z a.toNatClampNeg v) := fun z => if_pos c
    rw [ea] at A1 p2
    rw [ea] at B1 q2
    have ia : (a.toNatClampNeg : Int) = a.toInt := slot_of1 rfl c.1
    refine ⟨?_, h, h1.get (by decide) hm he, ⟨p, q, p1, q1, fun k hk hH => ?_⟩, p, p1, fun k hk hH => ?_⟩
    · rw [A1, B1]
      exact k3 _ (by omega) (by omega)
    · rw [p2 k hk, q2 k hk]
      show upd d a.toNatClampNeg v k = upd g a.toNatClampNeg v k
      by_cases e : k = a.toNatClampNeg
      · rw [e, upd_at, upd_at]
      · rw [upd_off e, upd_off e]
        exact k3 k hk hH
    · rw [p2 k hk]
      show upd d a.toNatClampNeg v k = 0
      rw [upd_off (by omega)]
      exact k5 k hk hH
  · have ea : ∀ z : Nat → Int32, mDeep h.toInt z a v = (-1, z) := fun z => if_neg c
    rw [ea] at A1 p2
    rw [ea] at B1 q2
    refine ⟨A1.trans B1.symm, h, h1.get (by decide) hm he, ⟨p, q, p1, q1, fun k hk hH => ?_⟩, p, p1, fun k hk hH => ?_⟩
    · rw [p2 k hk, q2 k hk]
      exact k3 k hk hH
    · rw [p2 k hk]
      exact k5 k hk hH
end
section
/-! what a text tells lies within its bounds -/
theorem num_b {f : Nat → Int32} {L p lo hi : Int32} (h : (num f L p lo hi).1 = true) : lo.toInt ≤ (num f L p lo hi).2.2.toInt ∧ (num f L p lo hi).2.2.toInt ≤ hi.toInt := by
  have e48 : (48 : Int32).toInt = 48 := by decide
  have e10 : (10 : Int32).toInt = 10 := by decide
  unfold num at h ⊢
  by_cases c1 : p.toInt < L.toInt ∧ 48 ≤ (f p.toNatClampNeg).toInt ∧ (f p.toNatClampNeg).toInt ≤ 57
  · have d1 : (f p.toNatClampNeg - 48).toInt = (f p.toNatClampNeg).toInt - 48 := tI_sub rfl e48 (by omega)
    rw [if_pos c1] at h ⊢
    by_cases c2 : p.toInt + 1 < L.toInt ∧ 48 ≤ (f (p + 1).toNatClampNeg).toInt ∧ (f (p + 1).toNatClampNeg).toInt ≤ 57
    · have d2 : (10 * (f p.toNatClampNeg - 48) + f (p + 1).toNatClampNeg - 48).toInt = 10 * ((f p.toNatClampNeg).toInt - 48) + (f (p + 1).toNatClampNeg).toInt - 48 := tI_sub (tI_add (tI_mul e10 d1 (by omega)) rfl (by omega)) e48 (by omega)
      rw [if_pos c2] at h ⊢
      by_cases c3 : lo.toInt ≤ 10 * ((f p.toNatClampNeg).toInt - 48) + (f (p + 1).toNatClampNeg).toInt - 48 ∧ 10 * ((f p.toNatClampNeg).toInt - 48) + (f (p + 1).toNatClampNeg).toInt - 48 ≤ hi.toInt
      · rw [if_pos c3]
        show lo.toInt ≤ (10 * (f p.toNatClampNeg - 48) + f (p + 1).toNatClampNeg - 48).toInt ∧ (10 * (f p.toNatClampNeg - 48) + f (p + 1).toNatClampNeg - 48).toInt ≤ hi.toInt
        rw [d2]
        exact c3
      · rw [if_neg c3] at h
        cases h
    · rw [if_neg c2] at h ⊢
      by_cases c3 : lo.toInt ≤ (f p.toNatClampNeg).toInt - 48 ∧ (f p.toNatClampNeg).toInt - 48 ≤ hi.toInt
      · rw [if_pos c3]
        show lo.toInt ≤ (f p.toNatClampNeg - 48).toInt ∧ (f p.toNatClampNeg - 48).toInt ≤ hi.toInt
        rw [d1]
        exact c3
      · rw [if_neg c3] at h
        cases h
  · rw [if_neg c1] at h
    cases h
theorem sg_b {f : Nat → Int32} {L p : Int32} (h : (sg f L p).1 = true) : -99 ≤ (sg f L p).2.2.toInt ∧ (sg f L p).2.2.toInt ≤ 99 := by
  have b := num_b (f := f) (L := L) (p := (tk f L p 45).2) (lo := 0) (hi := 99) h
  have e0 : (0 : Int32).toInt = 0 := by decide
  have e9 : (99 : Int32).toInt = 99 := by decide
  rw [e0, e9] at b
  show -99 ≤ (if (tk f L p 45).1 = true then -(num f L (tk f L p 45).2 0 99).2.2 else (num f L (tk f L p 45).2 0 99).2.2).toInt ∧ _
  by_cases c : (tk f L p 45).1 = true
  · have n1 : (-(num f L (tk f L p 45).2 0 99).2.2).toInt = -(num f L (tk f L p 45).2 0 99).2.2.toInt := tI_neg rfl (by omega)
    have e : (sg f L p).2.2 = -(num f L (tk f L p 45).2 0 99).2.2 := if_pos c
    rw [if_pos c, e, n1]
    omega
  · have e : (sg f L p).2.2 = (num f L (tk f L p 45).2 0 99).2.2 := if_neg c
    rw [if_neg c, e]
    omega
/-- a line that could be read begins there -/
def okL (f : Nat → Int32) (L : Int32) (w : Int) (p : Int32) : Prop := ∃ H S C : Int, (lin f L p H S C).1 = true ∧ (f p.toNatClampNeg).toInt = w
theorem okL_h {f : Nat → Int32} {L p : Int32} (q : okL f L 104 p) : (hA f L p).1 = true ∧ (hC f L p).1 = true ∧ (hE f L p).1 = true ∧ (hG f L p).1 = true := by
  obtain ⟨H, S, C, h, e⟩ := q
  rw [lin_h (lin_lt h) e] at h
  by_cases h0 : 16 ≤ H
  · rw [hol_0 h0] at h
    cases h
  by_cases h1 : ¬ (hA f L p).1 = true
  · rw [hol_1 h0 h1] at h
    cases h
  have h1 := Classical.not_not.mp h1
  by_cases h2 : ¬ (hB f L p).1 = true
  · rw [hol_2 h0 h1 h2] at h
    cases h
  have h2 := Classical.not_not.mp h2
  by_cases h3 : ¬ (hC f L p).1 = true
  · rw [hol_3 h0 h1 h2 h3] at h
    cases h
  have h3 := Classical.not_not.mp h3
  by_cases h4 : ¬ (hD f L p).1 = true
  · rw [hol_4 h0 h1 h2 h3 h4] at h
    cases h
  have h4 := Classical.not_not.mp h4
  by_cases h5 : ¬ (hE f L p).1 = true
  · rw [hol_5 h0 h1 h2 h3 h4 h5] at h
    cases h
  have h5 := Classical.not_not.mp h5
  by_cases h6 : ¬ (hF f L p).1 = true
  · rw [hol_6 h0 h1 h2 h3 h4 h5 h6] at h
    cases h
  have h6 := Classical.not_not.mp h6
  rw [hol_7 h0 h1 h2 h3 h4 h5 h6] at h
  exact ⟨h1, h3, h5, h⟩
theorem okL_s {f : Nat → Int32} {L p : Int32} (q : okL f L 115 p) : (pA f L p).1 = true ∧ (pC f L p).1 = true := by
  obtain ⟨H, S, C, h, e⟩ := q
  rw [lin_s (lin_lt h) e] at h
  by_cases h0 : 6 ≤ S
  · rw [spd_0 h0] at h
    cases h
  by_cases h1 : ¬ (pA f L p).1 = true
  · rw [spd_1 h0 h1] at h
    cases h
  have h1 := Classical.not_not.mp h1
  by_cases h2 : ¬ (pB f L p).1 = true
  · rw [spd_2 h0 h1 h2] at h
    cases h
  have h2 := Classical.not_not.mp h2
  rw [spd_3 h0 h1 h2] at h
  exact ⟨h1, h⟩
theorem okL_c {f : Nat → Int32} {L p : Int32} (q : okL f L 99 p) : (cA f L p).1 = true := by
  obtain ⟨H, S, C, h, e⟩ := q
  rw [lin_c (lin_lt h) e] at h
  by_cases h0 : 8 ≤ C
  · rw [cog_0 h0] at h
    cases h
  rw [cog_1 h0] at h
  exact h
theorem okL_nx {f : Nat → Int32} {L p : Int32} {w h0 H : Int} {H2 S2 C2 : Int} {a : Nat → Int32} (hl : (lin f L p H2 S2 C2).1 = true) (h : ∀ j : Nat, h0 ≤ (j : Int) → (j : Int) < H → okL f L w (a j)) (hH : 0 ≤ H) : ∀ j : Nat, h0 ≤ (j : Int) → (j : Int) < H + dl w f p → okL f L w (nx w f p H a j) := by
  intro j j1 j2
  unfold nx
  by_cases e : (f p.toNatClampNeg).toInt = w
  · rw [dl_1 e] at j2
    rw [if_pos e]
    by_cases ej : j = H.toNat
    · rw [ej, upd_at]
      exact ⟨H2, S2, C2, hl, e⟩
    · rw [upd_off ej]
      exact h j j1 (by omega)
  · rw [dl_0 e] at j2
    rw [if_neg e]
    exact h j j1 (by omega)
theorem run_ok_h {f : Nat → Int32} {L : Int32} {h0 : Int} : ∀ (n : Nat) (p : Int32) (H S C k : Int) (a b d : Nat → Int32), 0 ≤ H → (∀ j : Nat, h0 ≤ (j : Int) → (j : Int) < H → okL f L 104 (a j)) → ∀ j : Nat, h0 ≤ (j : Int) → (j : Int) < (run f L n p H S C k a b d).2.2.2.1 → okL f L 104 ((run f L n p H S C k a b d).2.2.2.2.2.2.1 j)
  | 0, _, _, _, _, _, _, _, _, _, h => h
  | n + 1, p, H, S, C, k, a, b, d, h00, h => by
    have dg : 0 ≤ dl 104 f p := dl_ge
    by_cases hy : (lin f L p H S C).1 = true
    · have h1 := okL_nx hy h h00
      by_cases ht : (tk f L (lin f L p H S C).2 59).1 = true
      · have e : run f L (n + 1) p H S C k a b d = run f L n (tk f L (lin f L p H S C).2 59).2 (H + dl 104 f p) (S + dl 115 f p) (C + dl 99 f p) (k + 1) (nx 104 f p H a) (nx 115 f p S b) (nx 99 f p C d) := by
          show (if (lin f L p H S C).1 = true then (if (tk f L (lin f L p H S C).2 59).1 = true then _ else _) else _ : RR9) = _
          rw [if_pos hy, if_pos ht]
        rw [e]
        exact run_ok_h n _ _ _ _ _ _ _ _ (by omega) h1
      · have e : run f L (n + 1) p H S C k a b d = (true, (tk f L (lin f L p H S C).2 59).2, k + 1, H + dl 104 f p, S + dl 115 f p, C + dl 99 f p, nx 104 f p H a, nx 115 f p S b, nx 99 f p C d) := by
          show (if (lin f L p H S C).1 = true then (if (tk f L (lin f L p H S C).2 59).1 = true then _ else _) else _ : RR9) = _
          rw [if_pos hy, if_neg ht]
        rw [e]
        exact h1
    · have e : run f L (n + 1) p H S C k a b d = (false, (lin f L p H S C).2, k, H, S, C, a, b, d) := by
        show (if (lin f L p H S C).1 = true then (if (tk f L (lin f L p H S C).2 59).1 = true then _ else _) else _ : RR9) = _
        rw [if_neg hy]
      rw [e]
      exact h
theorem run_ge_h {f : Nat → Int32} {L : Int32} : ∀ (n : Nat) (p : Int32) (H S C k : Int) (a b d : Nat → Int32), H ≤ (run f L n p H S C k a b d).2.2.2.1
  | 0, _, _, _, _, _, _, _, _ => Int.le_refl _
  | n + 1, p, H, S, C, k, a, b, d => by
    show H ≤ (if (lin f L p H S C).1 = true then (if (tk f L (lin f L p H S C).2 59).1 = true then _ else _) else _ : RR9).2.2.2.1
    have h0 : 0 ≤ dl 104 f p := dl_ge
    by_cases hy : (lin f L p H S C).1 = true
    · rw [if_pos hy]
      by_cases ht : (tk f L (lin f L p H S C).2 59).1 = true
      · rw [if_pos ht]
        exact Int.le_trans (by omega) (run_ge_h n _ _ _ _ _ _ _ _)
      · rw [if_neg ht]
        show H ≤ H + dl 104 f p
        omega
    · rw [if_neg hy]
      exact Int.le_refl _
theorem run0_h {f : Nat → Int32} {L : Int32} {h s c : Int} (h0 : 0 ≤ h) : ∀ j : Nat, h ≤ (j : Int) → (j : Int) < (run0 f L h s c).2.2.2.1 → okL f L 104 ((run0 f L h s c).2.2.2.2.2.2.1 j) := run_ok_h 60 0 h s c 0 zf zf zf h0 (fun j a b => absurd b (by omega))
theorem run_ok_s {f : Nat → Int32} {L : Int32} {h0 : Int} : ∀ (n : Nat) (p : Int32) (H S C k : Int) (a b d : Nat → Int32), 0 ≤ S → (∀ j : Nat, h0 ≤ (j : Int) → (j : Int) < S → okL f L 115 (b j)) → ∀ j : Nat, h0 ≤ (j : Int) → (j : Int) < (run f L n p H S C k a b d).2.2.2.2.1 → okL f L 115 ((run f L n p H S C k a b d).2.2.2.2.2.2.2.1 j)
  | 0, _, _, _, _, _, _, _, _, _, h => h
  | n + 1, p, H, S, C, k, a, b, d, h00, h => by
    have dg : 0 ≤ dl 115 f p := dl_ge
    by_cases hy : (lin f L p H S C).1 = true
    · have h1 := okL_nx hy h h00
      by_cases ht : (tk f L (lin f L p H S C).2 59).1 = true
      · have e : run f L (n + 1) p H S C k a b d = run f L n (tk f L (lin f L p H S C).2 59).2 (H + dl 104 f p) (S + dl 115 f p) (C + dl 99 f p) (k + 1) (nx 104 f p H a) (nx 115 f p S b) (nx 99 f p C d) := by
          show (if (lin f L p H S C).1 = true then (if (tk f L (lin f L p H S C).2 59).1 = true then _ else _) else _ : RR9) = _
          rw [if_pos hy, if_pos ht]
        rw [e]
        exact run_ok_s n _ _ _ _ _ _ _ _ (by omega) h1
      · have e : run f L (n + 1) p H S C k a b d = (true, (tk f L (lin f L p H S C).2 59).2, k + 1, H + dl 104 f p, S + dl 115 f p, C + dl 99 f p, nx 104 f p H a, nx 115 f p S b, nx 99 f p C d) := by
          show (if (lin f L p H S C).1 = true then (if (tk f L (lin f L p H S C).2 59).1 = true then _ else _) else _ : RR9) = _
          rw [if_pos hy, if_neg ht]
        rw [e]
        exact h1
    · have e : run f L (n + 1) p H S C k a b d = (false, (lin f L p H S C).2, k, H, S, C, a, b, d) := by
        show (if (lin f L p H S C).1 = true then (if (tk f L (lin f L p H S C).2 59).1 = true then _ else _) else _ : RR9) = _
        rw [if_neg hy]
      rw [e]
      exact h
theorem run_ge_s {f : Nat → Int32} {L : Int32} : ∀ (n : Nat) (p : Int32) (H S C k : Int) (a b d : Nat → Int32), S ≤ (run f L n p H S C k a b d).2.2.2.2.1
  | 0, _, _, _, _, _, _, _, _ => Int.le_refl _
  | n + 1, p, H, S, C, k, a, b, d => by
    show S ≤ (if (lin f L p H S C).1 = true then (if (tk f L (lin f L p H S C).2 59).1 = true then _ else _) else _ : RR9).2.2.2.2.1
    have h0 : 0 ≤ dl 115 f p := dl_ge
    by_cases hy : (lin f L p H S C).1 = true
    · rw [if_pos hy]
      by_cases ht : (tk f L (lin f L p H S C).2 59).1 = true
      · rw [if_pos ht]
        exact Int.le_trans (by omega) (run_ge_s n _ _ _ _ _ _ _ _)
      · rw [if_neg ht]
        show S ≤ S + dl 115 f p
        omega
    · rw [if_neg hy]
      exact Int.le_refl _
theorem run0_s {f : Nat → Int32} {L : Int32} {h s c : Int} (h0 : 0 ≤ s) : ∀ j : Nat, s ≤ (j : Int) → (j : Int) < (run0 f L h s c).2.2.2.2.1 → okL f L 115 ((run0 f L h s c).2.2.2.2.2.2.2.1 j) := run_ok_s 60 0 h s c 0 zf zf zf h0 (fun j a b => absurd b (by omega))
theorem run_ok_c {f : Nat → Int32} {L : Int32} {h0 : Int} : ∀ (n : Nat) (p : Int32) (H S C k : Int) (a b d : Nat → Int32), 0 ≤ C → (∀ j : Nat, h0 ≤ (j : Int) → (j : Int) < C → okL f L 99 (d j)) → ∀ j : Nat, h0 ≤ (j : Int) → (j : Int) < (run f L n p H S C k a b d).2.2.2.2.2.1 → okL f L 99 ((run f L n p H S C k a b d).2.2.2.2.2.2.2.2 j)
  | 0, _, _, _, _, _, _, _, _, _, h => h
  | n + 1, p, H, S, C, k, a, b, d, h00, h => by
    have dg : 0 ≤ dl 99 f p := dl_ge
    by_cases hy : (lin f L p H S C).1 = true
    · have h1 := okL_nx hy h h00
      by_cases ht : (tk f L (lin f L p H S C).2 59).1 = true
      · have e : run f L (n + 1) p H S C k a b d = run f L n (tk f L (lin f L p H S C).2 59).2 (H + dl 104 f p) (S + dl 115 f p) (C + dl 99 f p) (k + 1) (nx 104 f p H a) (nx 115 f p S b) (nx 99 f p C d) := by
          show (if (lin f L p H S C).1 = true then (if (tk f L (lin f L p H S C).2 59).1 = true then _ else _) else _ : RR9) = _
          rw [if_pos hy, if_pos ht]
        rw [e]
        exact run_ok_c n _ _ _ _ _ _ _ _ (by omega) h1
      · have e : run f L (n + 1) p H S C k a b d = (true, (tk f L (lin f L p H S C).2 59).2, k + 1, H + dl 104 f p, S + dl 115 f p, C + dl 99 f p, nx 104 f p H a, nx 115 f p S b, nx 99 f p C d) := by
          show (if (lin f L p H S C).1 = true then (if (tk f L (lin f L p H S C).2 59).1 = true then _ else _) else _ : RR9) = _
          rw [if_pos hy, if_neg ht]
        rw [e]
        exact h1
    · have e : run f L (n + 1) p H S C k a b d = (false, (lin f L p H S C).2, k, H, S, C, a, b, d) := by
        show (if (lin f L p H S C).1 = true then (if (tk f L (lin f L p H S C).2 59).1 = true then _ else _) else _ : RR9) = _
        rw [if_neg hy]
      rw [e]
      exact h
theorem run_ge_c {f : Nat → Int32} {L : Int32} : ∀ (n : Nat) (p : Int32) (H S C k : Int) (a b d : Nat → Int32), C ≤ (run f L n p H S C k a b d).2.2.2.2.2.1
  | 0, _, _, _, _, _, _, _, _ => Int.le_refl _
  | n + 1, p, H, S, C, k, a, b, d => by
    show C ≤ (if (lin f L p H S C).1 = true then (if (tk f L (lin f L p H S C).2 59).1 = true then _ else _) else _ : RR9).2.2.2.2.2.1
    have h0 : 0 ≤ dl 99 f p := dl_ge
    by_cases hy : (lin f L p H S C).1 = true
    · rw [if_pos hy]
      by_cases ht : (tk f L (lin f L p H S C).2 59).1 = true
      · rw [if_pos ht]
        exact Int.le_trans (by omega) (run_ge_c n _ _ _ _ _ _ _ _)
      · rw [if_neg ht]
        show C ≤ C + dl 99 f p
        omega
    · rw [if_neg hy]
      exact Int.le_refl _
theorem run0_c {f : Nat → Int32} {L : Int32} {h s c : Int} (h0 : 0 ≤ c) : ∀ j : Nat, c ≤ (j : Int) → (j : Int) < (run0 f L h s c).2.2.2.2.2.1 → okL f L 99 ((run0 f L h s c).2.2.2.2.2.2.2.2 j) := run_ok_c 60 0 h s c 0 zf zf zf h0 (fun j a b => absurd b (by omega))
theorem CN.up {N : Int32} {f : Nat → Int32} {L : Int32} {v h s c h2 s2 c2 : Int} (A : CN N (run0 f L h s c) v h s c h2 s2 c2) : (h ≤ h2 ∧ h2 ≤ (run0 f L h s c).2.2.2.1) ∧ (s ≤ s2 ∧ s2 ≤ (run0 f L h s c).2.2.2.2.1) ∧ (c ≤ c2 ∧ c2 ≤ (run0 f L h s c).2.2.2.2.2.1) := by
  obtain ⟨-, -, -, a4, a5⟩ := A
  have g1 : h ≤ (run0 f L h s c).2.2.2.1 := run_ge_h 60 0 h s c 0 zf zf zf
  have g2 : s ≤ (run0 f L h s c).2.2.2.2.1 := run_ge_s 60 0 h s c 0 zf zf zf
  have g3 : c ≤ (run0 f L h s c).2.2.2.2.2.1 := run_ge_c 60 0 h s c 0 zf zf zf
  by_cases o : okR N (run0 f L h s c)
  · have e := a4 o
    omega
  · have e := a5 o
    omega
end
section
/-! the leads: exactly -/
def lw (fp fh fx : Nat → Int32) (w : Int) : Nat → Int32
  | 0 => 0
  | n + 1 => if (fp n).toInt = w then lw fp fh fx w n + fh n * fx n else lw fp fh fx w n
theorem lw_yes {fp fh fx : Nat → Int32} {w : Int} {n : Nat} (h : (fp n).toInt = w) : lw fp fh fx w (n + 1) = lw fp fh fx w n + fh n * fx n := if_pos h
theorem lw_no {fp fh fx : Nat → Int32} {w : Int} {n : Nat} (h : ¬ (fp n).toInt = w) : lw fp fh fx w (n + 1) = lw fp fh fx w n := if_neg h
theorem lw_congr {fp fh fx gp gh gx : Nat → Int32} {w : Int} : ∀ {n : Nat}, (∀ j, j < n → fp j = gp j ∧ fh j = gh j ∧ fx j = gx j) → lw fp fh fx w n = lw gp gh gx w n
  | 0, _ => rfl
  | n + 1, h => by
    have ih : lw fp fh fx w n = lw gp gh gx w n := lw_congr (fun j hj => h j (Nat.lt_succ_of_lt hj))
    obtain ⟨a, b, c⟩ := h n (Nat.lt_succ_self n)
    by_cases d : (fp n).toInt = w
    · rw [lw_yes d, lw_yes (a ▸ d), ih, b, c]
    · rw [lw_no d, lw_no (a ▸ d), ih]
def axs (a : Int) (f g : Nat → Int32) : Nat → Int32 := if a = 0 then f else g
def lwp (h : Int) (fp fh fx : Nat → Int32) (w : Int) (ph po : Int32) : Int32 := if (0 ≤ ph.toInt ∧ ph.toInt < h) ∧ (fp ph.toNatClampNeg).toInt = w then lw fp fh fx w h.toNat + po * fx ph.toNatClampNeg else lw fp fh fx w h.toNat
def its (fo : Nat → Int32) (u m : Int32) (j : Nat) : Int32 := fo j + (if (j : Int) = u.toInt then m else 0)
theorem its_yes {fo : Nat → Int32} {u m : Int32} {j : Nat} (h : (j : Int) = u.toInt) : its fo u m j = fo j + m := by
  unfold its
  rw [if_pos h]
theorem its_no {fo : Nat → Int32} {u m : Int32} {j : Nat} (h : ¬ (j : Int) = u.toInt) : its fo u m j = fo j + 0 := by
  unfold its
  rw [if_neg h]
def ldq (fp ft fx fy : Nat → Int32) (n k : Nat) : Int32 := if k = 0 then lw fp ft fx 0 n else if k = 1 then lw fp ft fy 0 n else if k = 2 then lw fp ft fx 1 n else lw fp ft fy 1 n
theorem ldq_zero {fp ft fx fy : Nat → Int32} {k : Nat} : ldq fp ft fx fy 0 k = 0 := by
  unfold ldq
  by_cases a : k = 0
  · rw [if_pos a]
    rfl
  · rw [if_neg a]
    by_cases b : k = 1
    · rw [if_pos b]
      rfl
    · rw [if_neg b]
      by_cases c : k = 2
      · rw [if_pos c]
        rfl
      · rw [if_neg c]
        rfl
theorem ldq_step {fp ft fx fy g : Nat → Int32} {n : Nat} {p t x y : Int32} (hp : fp n = p) (ht : t = ft n) (hx : x = fx n) (hy : y = fy n) (h0 : 0 ≤ p.toInt ∧ p.toInt ≤ 1) (hg : ∀ k, k < 4 → g k = ldq fp ft fx fy n k) : ∀ k, k < 4 → upd (upd g (2 * p).toNatClampNeg (g (2 * p).toNatClampNeg + t * x)) (2 * p + 1).toNatClampNeg (upd g (2 * p).toNatClampNeg (g (2 * p).toNatClampNeg + t * x) (2 * p + 1).toNatClampNeg + t * y) k = ldq fp ft fx fy (n + 1) k := by
  have z0 : (0 : Int32).toInt = 0 := by decide
  have z1 : (1 : Int32).toInt = 1 := by decide
  have h01 := hg 0 (by decide)
  have h11 := hg 1 (by decide)
  have h21 := hg 2 (by decide)
  have h31 := hg 3 (by decide)
  subst ht
  subst hx
  subst hy
  have hc : p = 0 ∨ p = 1 := by
    rcases (by omega : p.toInt = 0 ∨ p.toInt = 1) with h | h
    · exact Or.inl (Int32.toInt_inj.mp (h.trans z0.symm))
    · exact Or.inr (Int32.toInt_inj.mp (h.trans z1.symm))
  rcases hc with e | e
  · subst e
    have q0 : (fp n).toInt = 0 := by rw [hp]; exact z0
    have q1 : ¬ (fp n).toInt = 1 := by omega
    have a0 : ((2 : Int32) * 0).toNatClampNeg = 0 := by decide
    have a1 : ((2 : Int32) * 0 + 1).toNatClampNeg = 1 := by decide
    rw [a0, a1]
    intro k hk
    rcases (by omega : k = 0 ∨ k = 1 ∨ k = 2 ∨ k = 3) with e | e | e | e
    · subst e
      rw [upd_off (by decide), upd_at, h01]
      exact (lw_yes q0).symm
    · subst e
      rw [upd_at, upd_off (by decide), h11]
      exact (lw_yes q0).symm
    · subst e
      rw [upd_off (by decide), upd_off (by decide), h21]
      exact (lw_no q1).symm
    · subst e
      rw [upd_off (by decide), upd_off (by decide), h31]
      exact (lw_no q1).symm
  · subst e
    have q1 : (fp n).toInt = 1 := by rw [hp]; exact z1
    have q0 : ¬ (fp n).toInt = 0 := by omega
    have a0 : ((2 : Int32) * 1).toNatClampNeg = 2 := by decide
    have a1 : ((2 : Int32) * 1 + 1).toNatClampNeg = 3 := by decide
    rw [a0, a1]
    intro k hk
    rcases (by omega : k = 0 ∨ k = 1 ∨ k = 2 ∨ k = 3) with e | e | e | e
    · subst e
      rw [upd_off (by decide), upd_off (by decide), h01]
      exact (lw_no q0).symm
    · subst e
      rw [upd_off (by decide), upd_off (by decide), h11]
      exact (lw_no q0).symm
    · subst e
      rw [upd_off (by decide), upd_at, h21]
      exact (lw_yes q1).symm
    · subst e
      rw [upd_at, upd_off (by decide), h31]
      exact (lw_yes q1).symm
theorem lw_its {fp fo fx : Nat → Int32} {w : Int} {u m : Int32} : ∀ {n : Nat}, lw fp (its fo u m) fx w n = if (0 ≤ u.toInt ∧ u.toInt < (n : Int)) ∧ (fp u.toNatClampNeg).toInt = w then lw fp fo fx w n + m * fx u.toNatClampNeg else lw fp fo fx w n
  | 0 => by
    rw [if_neg (by omega)]
    rfl
  | n + 1 => by
    have ih := lw_its (fp := fp) (fo := fo) (fx := fx) (w := w) (u := u) (m := m) (n := n)
    by_cases c : (n : Int) = u.toInt
    · have en : u.toNatClampNeg = n := by
        show u.toInt.toNat = n
        omega
      rw [en, if_neg (by omega)] at ih
      rw [en]
      by_cases d : (fp n).toInt = w
      · rw [if_pos ⟨by omega, d⟩, lw_yes d, lw_yes d, its_yes c, ih]
        grind
      · rw [if_neg (fun q => d q.2), lw_no d, lw_no d, ih]
    · have ei : its fo u m n = fo n := by
        rw [its_no c]
        grind
      by_cases q : (0 ≤ u.toInt ∧ u.toInt < (n : Int)) ∧ (fp u.toNatClampNeg).toInt = w
      · rw [if_pos q] at ih
        rw [if_pos ⟨by omega, q.2⟩]
        by_cases d : (fp n).toInt = w
        · rw [lw_yes d, lw_yes d, ei, ih]
          grind
        · rw [lw_no d, lw_no d, ih]
      · rw [if_neg q] at ih
        rw [if_neg (fun z => q ⟨by omega, z.2⟩)]
        by_cases d : (fp n).toInt = w
        · rw [lw_yes d, lw_yes d, ei, ih]
        · rw [lw_no d, lw_no d, ih]
/-- what the reference's leads lays is what the class sums -/
theorem lwp_its {h : Int} {fp fo fx : Nat → Int32} {w : Int} {u m : Int32} (h0 : 0 ≤ h) : lw fp (its fo u m) fx w h.toNat = lwp h fp fo fx w u m := by
  unfold lwp
  rw [lw_its, show ((h.toNat : Nat) : Int) = h by omega]
theorem lwp_none {h : Int} {fp fo fx : Nat → Int32} {w : Int} {u m : Int32} (hu : u.toInt < 0) : lwp h fp fo fx w u m = lw fp fo fx w h.toNat := by
  unfold lwp
  exact if_neg (by omega)
theorem de_X5_isHole_1 : decode cX5_isHole 1 = .ok (.ifCond .lt 15, 3) := by decide +kernel
theorem de_X5_isHole_17 : decode cX5_isHole 17 = .ok (.ireturn, 1) := by decide +kernel
theorem de_X5_isHole_6 : decode cX5_isHole 6 = .ok (.getfield 34, 3) := by decide +kernel
theorem de_X5_isHole_9 : decode cX5_isHole 9 = .ok (.if_icmp .ge 7, 3) := by decide +kernel
theorem de_X5_isHole_13 : decode cX5_isHole 13 = .ok (.goto 4, 3) := by decide +kernel
abbrev be_X5_isHole_0_1 : ZB := [(.iload_n 1, .null)]
theorem ke_X5_isHole_0_1 : zchk cX5_isHole be_X5_isHole_0_1 0 = true ∧ zpc be_X5_isHole_0_1 0 = 1 := ⟨by decide +kernel, rfl⟩
abbrev be_X5_isHole_16_17 : ZB := [(.iconst 0, .int 0)]
theorem ke_X5_isHole_16_17 : zchk cX5_isHole be_X5_isHole_16_17 16 = true ∧ zpc be_X5_isHole_16_17 16 = 17 := ⟨by decide +kernel, rfl⟩
abbrev be_X5_isHole_4_6 : ZB := [(.iload_n 1, .null), (.aload_n 0, .null)]
theorem ke_X5_isHole_4_6 : zchk cX5_isHole be_X5_isHole_4_6 4 = true ∧ zpc be_X5_isHole_4_6 4 = 6 := ⟨by decide +kernel, rfl⟩
abbrev be_X5_isHole_12_13 : ZB := [(.iconst 1, .int 1)]
theorem ke_X5_isHole_12_13 : zchk cX5_isHole be_X5_isHole_12_13 12 = true ∧ zpc be_X5_isHole_12_13 12 = 13 := ⟨by decide +kernel, rfl⟩
set_option maxHeartbeats 4000000 in
set_option maxRecDepth 100000 in
theorem ce_X5_isHoleL (l : Launch) (G : KG) (ring : Nat) (hc : Int32) (g_rp : Value) (g_rx : Value) (g_ry : Value) (g_rr : Value) (g_rh : Value) (g_rd : Value) (g_ph : Value) (g_po : Value) (a : Int32) (hci : Int) (ai : Int) (hhc : hc.toInt = hci) (ha : a.toInt = ai) : Ct l G yX5_isHole cX5_isHole 2 (some .boolean) { frames := 0, cells := 0, slots := 0, locals := 0 } [.ref ring, .int a] [(ring, ob 5 [.int hc, g_rp, g_rx, g_ry, g_rr, g_rh, g_rd, g_ph, g_po])] (fun r w1 => r = some (.int (zb (decide (0 ≤ ai ∧ ai < hci)))) ∧ w1 = [(ring, ob 5 [.int hc, g_rp, g_rx, g_ry, g_rr, g_rh, g_rd, g_ph, g_po])]) := by
  refine ct_of [(0, .ref ring), (1, .int a)] (by decide) (Nat.le_of_ble_eq_true rfl) rfl ?_
  intro p0 e0 s0 m0 args0 below0 meth0 c0 A X
  refine z_run X be_X5_isHole_0_1 ke_X5_isHole_0_1 (lv' := [(0, .ref ring), (1, .int a)]) (st' := [.int a]) rfl ?_
  refine zi_lt X de_X5_isHole_1 (tgt := 16) (by decide) (a := ai) ha (fun c1_1 => ?_) (fun c1_1 => ?_)
  ·
    refine z_run X be_X5_isHole_16_17 ke_X5_isHole_16_17 (lv' := [(0, .ref ring), (1, .int a)]) (st' := [.int 0]) rfl ?_
    exact z_zret X rfl rfl de_X5_isHole_17 (Nat.le_of_ble_eq_true rfl) (Nat.le_of_ble_eq_true rfl) ⟨(congrArg (fun z => some (Value.int z)) (zb_f (by omega)).symm), rfl⟩
  ·
    refine z_run X be_X5_isHole_4_6 ke_X5_isHole_4_6 (lv' := [(0, .ref ring), (1, .int a)]) (st' := [.ref ring, .int a]) rfl ?_
    refine z_get X fl_5_34 de_X5_isHole_6 0 rfl (v := .int hc) rfl ?_
    refine zc_ge X de_X5_isHole_9 (tgt := 16) (by decide) (a := ai) (b := hci) ha hhc (fun c9_2 => ?_) (fun c9_2 => ?_)
    ·
      refine z_run X be_X5_isHole_16_17 ke_X5_isHole_16_17 (lv' := [(0, .ref ring), (1, .int a)]) (st' := [.int 0]) rfl ?_
      exact z_zret X rfl rfl de_X5_isHole_17 (Nat.le_of_ble_eq_true rfl) (Nat.le_of_ble_eq_true rfl) ⟨(congrArg (fun z => some (Value.int z)) (zb_f (by omega)).symm), rfl⟩
    ·
      refine z_run X be_X5_isHole_12_13 ke_X5_isHole_12_13 (lv' := [(0, .ref ring), (1, .int a)]) (st' := [.int 1]) rfl ?_
      refine z_goto X de_X5_isHole_13 (tgt := 17) (by decide) ?_
      exact z_zret X rfl rfl de_X5_isHole_17 (Nat.le_of_ble_eq_true rfl) (Nat.le_of_ble_eq_true rfl) ⟨(congrArg (fun z => some (Value.int z)) (zb_t (by omega)).symm), rfl⟩

theorem de_X5_leadOfHoles_1 : decode cX5_leadOfHoles 1 = .ok (.ifCond .ne 10, 3) := by decide +kernel
theorem de_X5_leadOfHoles_12 : decode cX5_leadOfHoles 12 = .ok (.getfield 18, 3) := by decide +kernel
theorem de_X5_leadOfHoles_25 : decode cX5_leadOfHoles 25 = .ok (.getfield 34, 3) := by decide +kernel
theorem de_X5_leadOfHoles_28 : decode cX5_leadOfHoles 28 = .ok (.if_icmp .ge 37, 3) := by decide +kernel
theorem de_X5_leadOfHoles_67 : decode cX5_leadOfHoles 67 = .ok (.ireturn, 1) := by decide +kernel
theorem de_X5_leadOfHoles_32 : decode cX5_leadOfHoles 32 = .ok (.getfield 9, 3) := by decide +kernel
theorem de_X5_leadOfHoles_37 : decode cX5_leadOfHoles 37 = .ok (.iaload, 1) := by decide +kernel
theorem de_X5_leadOfHoles_39 : decode cX5_leadOfHoles 39 = .ok (.if_icmp .ne 20, 3) := by decide +kernel
theorem de_X5_leadOfHoles_62 : decode cX5_leadOfHoles 62 = .ok (.goto (-40), 3) := by decide +kernel
theorem de_X5_leadOfHoles_45 : decode cX5_leadOfHoles 45 = .ok (.getfield 24, 3) := by decide +kernel
theorem de_X5_leadOfHoles_50 : decode cX5_leadOfHoles 50 = .ok (.iaload, 1) := by decide +kernel
theorem de_X5_leadOfHoles_54 : decode cX5_leadOfHoles 54 = .ok (.iaload, 1) := by decide +kernel
theorem de_X5_leadOfHoles_5 : decode cX5_leadOfHoles 5 = .ok (.getfield 15, 3) := by decide +kernel
theorem de_X5_leadOfHoles_8 : decode cX5_leadOfHoles 8 = .ok (.goto 7, 3) := by decide +kernel
abbrev be_X5_leadOfHoles_0_1 : ZB := [(.iload_n 2, .null)]
theorem ke_X5_leadOfHoles_0_1 : zchk cX5_leadOfHoles be_X5_leadOfHoles_0_1 0 = true ∧ zpc be_X5_leadOfHoles_0_1 0 = 1 := ⟨by decide +kernel, rfl⟩
abbrev be_X5_leadOfHoles_11_12 : ZB := [(.aload_n 0, .null)]
theorem ke_X5_leadOfHoles_11_12 : zchk cX5_leadOfHoles be_X5_leadOfHoles_11_12 11 = true ∧ zpc be_X5_leadOfHoles_11_12 11 = 12 := ⟨by decide +kernel, rfl⟩
abbrev be_X5_leadOfHoles_15_22 : ZB := [(.astore_n 3, .null), (.iconst 0, .int 0), (.istore 4, .null), (.iconst 0, .int 0), (.istore 5, .null)]
theorem ke_X5_leadOfHoles_15_22 : zchk cX5_leadOfHoles be_X5_leadOfHoles_15_22 15 = true ∧ zpc be_X5_leadOfHoles_15_22 15 = 22 := ⟨by decide +kernel, rfl⟩
abbrev be_X5_leadOfHoles_22_25 : ZB := [(.iload 5, .null), (.aload_n 0, .null)]
theorem ke_X5_leadOfHoles_22_25 : zchk cX5_leadOfHoles be_X5_leadOfHoles_22_25 22 = true ∧ zpc be_X5_leadOfHoles_22_25 22 = 25 := ⟨by decide +kernel, rfl⟩
abbrev be_X5_leadOfHoles_65_67 : ZB := [(.iload 4, .null)]
theorem ke_X5_leadOfHoles_65_67 : zchk cX5_leadOfHoles be_X5_leadOfHoles_65_67 65 = true ∧ zpc be_X5_leadOfHoles_65_67 65 = 67 := ⟨by decide +kernel, rfl⟩
abbrev be_X5_leadOfHoles_31_32 : ZB := [(.aload_n 0, .null)]
theorem ke_X5_leadOfHoles_31_32 : zchk cX5_leadOfHoles be_X5_leadOfHoles_31_32 31 = true ∧ zpc be_X5_leadOfHoles_31_32 31 = 32 := ⟨by decide +kernel, rfl⟩
abbrev be_X5_leadOfHoles_35_37 : ZB := [(.iload 5, .null)]
theorem ke_X5_leadOfHoles_35_37 : zchk cX5_leadOfHoles be_X5_leadOfHoles_35_37 35 = true ∧ zpc be_X5_leadOfHoles_35_37 35 = 37 := ⟨by decide +kernel, rfl⟩
abbrev be_X5_leadOfHoles_38_39 : ZB := [(.iload_n 1, .null)]
theorem ke_X5_leadOfHoles_38_39 : zchk cX5_leadOfHoles be_X5_leadOfHoles_38_39 38 = true ∧ zpc be_X5_leadOfHoles_38_39 38 = 39 := ⟨by decide +kernel, rfl⟩
abbrev be_X5_leadOfHoles_59_62 : ZB := [(.iinc 5 1, .int 1)]
theorem ke_X5_leadOfHoles_59_62 : zchk cX5_leadOfHoles be_X5_leadOfHoles_59_62 59 = true ∧ zpc be_X5_leadOfHoles_59_62 59 = 62 := ⟨by decide +kernel, rfl⟩
abbrev be_X5_leadOfHoles_42_45 : ZB := [(.iload 4, .null), (.aload_n 0, .null)]
theorem ke_X5_leadOfHoles_42_45 : zchk cX5_leadOfHoles be_X5_leadOfHoles_42_45 42 = true ∧ zpc be_X5_leadOfHoles_42_45 42 = 45 := ⟨by decide +kernel, rfl⟩
abbrev be_X5_leadOfHoles_48_50 : ZB := [(.iload 5, .null)]
theorem ke_X5_leadOfHoles_48_50 : zchk cX5_leadOfHoles be_X5_leadOfHoles_48_50 48 = true ∧ zpc be_X5_leadOfHoles_48_50 48 = 50 := ⟨by decide +kernel, rfl⟩
abbrev be_X5_leadOfHoles_51_54 : ZB := [(.aload_n 3, .null), (.iload 5, .null)]
theorem ke_X5_leadOfHoles_51_54 : zchk cX5_leadOfHoles be_X5_leadOfHoles_51_54 51 = true ∧ zpc be_X5_leadOfHoles_51_54 51 = 54 := ⟨by decide +kernel, rfl⟩
abbrev be_X5_leadOfHoles_55_62 : ZB := [(.imul, .null), (.iadd, .null), (.istore 4, .null), (.iinc 5 1, .int 1)]
theorem ke_X5_leadOfHoles_55_62 : zchk cX5_leadOfHoles be_X5_leadOfHoles_55_62 55 = true ∧ zpc be_X5_leadOfHoles_55_62 55 = 62 := ⟨by decide +kernel, rfl⟩
abbrev be_X5_leadOfHoles_4_5 : ZB := [(.aload_n 0, .null)]
theorem ke_X5_leadOfHoles_4_5 : zchk cX5_leadOfHoles be_X5_leadOfHoles_4_5 4 = true ∧ zpc be_X5_leadOfHoles_4_5 4 = 5 := ⟨by decide +kernel, rfl⟩
set_option maxHeartbeats 4000000 in
set_option maxRecDepth 100000 in
theorem ce_X5_leadOfHoles (l : Launch) (G : KG) (ring : Nat) (hc : Int32) (rp : Nat) (rx : Nat) (ry : Nat) (g_rr : Value) (rh : Nat) (g_rd : Value) (g_ph : Value) (g_po : Value) (fp : Nat → Int32) (fx : Nat → Int32) (fy : Nat → Int32) (fh : Nat → Int32) (wq : Int32) (aq : Int32) (hci : Int) (wi : Int) (ai : Int) (hhc : hc.toInt = hci) (hwq : wq.toInt = wi) (haq : aq.toInt = ai) (hc0 : 0 ≤ hci ∧ hci ≤ 16) : Ct l G yX5_leadOfHoles cX5_leadOfHoles 6 (some .int) { frames := 0, cells := 0, slots := 0, locals := 0 } [.ref ring, .int wq, .int aq] [(ring, ob 5 [.int hc, .ref rp, .ref rx, .ref ry, g_rr, .ref rh, g_rd, g_ph, g_po]), (rp, aI G 16 fp), (rx, aI G 16 fx), (ry, aI G 16 fy), (rh, aI G 16 fh)] (fun r w1 => ∃ (rz : Int32), (rz = lw fp fh (axs ai fx fy) wi hci.toNat) ∧ r = some (.int rz) ∧ w1 = [(ring, ob 5 [.int hc, .ref rp, .ref rx, .ref ry, g_rr, .ref rh, g_rd, g_ph, g_po]), (rp, aI G 16 fp), (rx, aI G 16 fx), (ry, aI G 16 fy), (rh, aI G 16 fh)]) := by
  refine ct_of [(0, .ref ring), (1, .int wq), (2, .int aq)] (by decide) (Nat.le_of_ble_eq_true rfl) rfl ?_
  intro p0 e0 s0 m0 args0 below0 meth0 c0 A X
  refine z_run X be_X5_leadOfHoles_0_1 ke_X5_leadOfHoles_0_1 (lv' := [(0, .ref ring), (1, .int wq), (2, .int aq)]) (st' := [.int aq]) rfl ?_
  refine zi_ne X de_X5_leadOfHoles_1 (tgt := 11) (by decide) (a := ai) haq (fun c1_1 => ?_) (fun c1_1 => ?_)
  ·
    refine z_run X be_X5_leadOfHoles_11_12 ke_X5_leadOfHoles_11_12 (lv' := [(0, .ref ring), (1, .int wq), (2, .int aq)]) (st' := [.ref ring]) rfl ?_
    refine z_get X fl_5_18 de_X5_leadOfHoles_12 0 rfl (v := .ref ry) rfl ?_
    refine z_run X be_X5_leadOfHoles_15_22 ke_X5_leadOfHoles_15_22 (lv' := [(5, .int 0), (4, .int 0), (3, .ref ry), (0, .ref ring), (1, .int wq), (2, .int aq)]) (st' := []) rfl ?_
    refine zloop (σ := Int32 × Int32) (fun z => [(5, .int z.1), (4, .int z.2), (3, .ref ry), (0, .ref ring), (1, .int wq), (2, .int aq)]) (fun z => []) (fun z => [(ring, ob 5 [.int hc, .ref rp, .ref rx, .ref ry, g_rr, .ref rh, g_rd, g_ph, g_po]), (rp, aI G 16 fp), (rx, aI G 16 fx), (ry, aI G 16 fy), (rh, aI G 16 fh)]) (fun z => (0 ≤ z.1.toInt ∧ z.1.toInt ≤ hci) ∧ (z.2 = lw fp fh fy wi z.1.toInt.toNat)) (fun z => (hci - z.1.toInt).toNat) (0, 0) ?_ ?_
    ·
      rintro ⟨i_, s_⟩ ⟨hi, hs⟩ ih22
      dsimp only at *
      refine z_run X be_X5_leadOfHoles_22_25 ke_X5_leadOfHoles_22_25 (lv' := [(5, .int i_), (4, .int s_), (3, .ref ry), (0, .ref ring), (1, .int wq), (2, .int aq)]) (st' := [.ref ring, .int i_]) rfl ?_
      refine z_get X fl_5_34 de_X5_leadOfHoles_25 0 rfl (v := .int hc) rfl ?_
      refine zc_ge X de_X5_leadOfHoles_28 (tgt := 65) (by decide) (a := i_.toInt) (b := hci) rfl hhc (fun c28_2 => ?_) (fun c28_2 => ?_)
      ·
        refine z_run X be_X5_leadOfHoles_65_67 ke_X5_leadOfHoles_65_67 (lv' := [(5, .int i_), (4, .int s_), (3, .ref ry), (0, .ref ring), (1, .int wq), (2, .int aq)]) (st' := [.int s_]) rfl ?_
        exact z_iret X rfl de_X5_leadOfHoles_67 (Nat.le_of_ble_eq_true rfl) (Nat.le_of_ble_eq_true rfl) ⟨s_, (by unfold axs; rw [if_neg (by omega), hs, show i_.toInt.toNat = hci.toNat by omega]), rfl, rfl⟩
      ·
        refine z_run X be_X5_leadOfHoles_31_32 ke_X5_leadOfHoles_31_32 (lv' := [(5, .int i_), (4, .int s_), (3, .ref ry), (0, .ref ring), (1, .int wq), (2, .int aq)]) (st' := [.ref ring]) rfl ?_
        refine z_get X fl_5_9 de_X5_leadOfHoles_32 0 rfl (v := .ref rp) rfl ?_
        refine z_run X be_X5_leadOfHoles_35_37 ke_X5_leadOfHoles_35_37 (lv' := [(5, .int i_), (4, .int s_), (3, .ref ry), (0, .ref ring), (1, .int wq), (2, .int aq)]) (st' := [.int i_, .ref rp]) rfl ?_
        refine z_iald X de_X5_leadOfHoles_37 1 rfl (vin rfl (by omega) (by omega)) (v := (fp i_.toNatClampNeg)) rfl ?_
        refine z_run X be_X5_leadOfHoles_38_39 ke_X5_leadOfHoles_38_39 (lv' := [(5, .int i_), (4, .int s_), (3, .ref ry), (0, .ref ring), (1, .int wq), (2, .int aq)]) (st' := [.int wq, .int (fp i_.toNatClampNeg)]) rfl ?_
        refine zc_ne X de_X5_leadOfHoles_39 (tgt := 59) (by decide) (a := (fp i_.toNatClampNeg).toInt) (b := wi) rfl hwq (fun c39_3 => ?_) (fun c39_3 => ?_)
        ·
          refine z_run X be_X5_leadOfHoles_59_62 ke_X5_leadOfHoles_59_62 (lv' := [(5, .int (i_ + 1)), (4, .int s_), (3, .ref ry), (0, .ref ring), (1, .int wq), (2, .int aq)]) (st' := []) rfl ?_
          refine z_goto X de_X5_leadOfHoles_62 (tgt := 22) (by decide) ?_
          exact ih22 ((i_ + 1), s_) ⟨(by dsimp only; have e : (i_ + 1).toInt = i_.toInt + 1 := tI_add rfl (show (1 : Int32).toInt = 1 from by decide) (by omega); omega), (by dsimp only; have e : (i_ + 1).toInt = i_.toInt + 1 := tI_add rfl (show (1 : Int32).toInt = 1 from by decide) (by omega); rw [e, show (i_.toInt + 1).toNat = i_.toInt.toNat + 1 by omega]; rw [lw_no (show ¬ (fp i_.toInt.toNat).toInt = wi from (show ¬ (fp i_.toNatClampNeg).toInt = wi by omega)), hs])⟩ (by dsimp only; have e : (i_ + 1).toInt = i_.toInt + 1 := tI_add rfl (show (1 : Int32).toInt = 1 from by decide) (by omega); omega)
        ·
          refine z_run X be_X5_leadOfHoles_42_45 ke_X5_leadOfHoles_42_45 (lv' := [(5, .int i_), (4, .int s_), (3, .ref ry), (0, .ref ring), (1, .int wq), (2, .int aq)]) (st' := [.ref ring, .int s_]) rfl ?_
          refine z_get X fl_5_24 de_X5_leadOfHoles_45 0 rfl (v := .ref rh) rfl ?_
          refine z_run X be_X5_leadOfHoles_48_50 ke_X5_leadOfHoles_48_50 (lv' := [(5, .int i_), (4, .int s_), (3, .ref ry), (0, .ref ring), (1, .int wq), (2, .int aq)]) (st' := [.int i_, .ref rh, .int s_]) rfl ?_
          refine z_iald X de_X5_leadOfHoles_50 4 rfl (vin rfl (by omega) (by omega)) (v := (fh i_.toNatClampNeg)) rfl ?_
          refine z_run X be_X5_leadOfHoles_51_54 ke_X5_leadOfHoles_51_54 (lv' := [(5, .int i_), (4, .int s_), (3, .ref ry), (0, .ref ring), (1, .int wq), (2, .int aq)]) (st' := [.int i_, .ref ry, .int (fh i_.toNatClampNeg), .int s_]) rfl ?_
          refine z_iald X de_X5_leadOfHoles_54 3 rfl (vin rfl (by omega) (by omega)) (v := (fy i_.toNatClampNeg)) rfl ?_
          refine z_run X be_X5_leadOfHoles_55_62 ke_X5_leadOfHoles_55_62 (lv' := [(5, .int (i_ + 1)), (4, .int (s_ + ((fh i_.toNatClampNeg) * (fy i_.toNatClampNeg)))), (3, .ref ry), (0, .ref ring), (1, .int wq), (2, .int aq)]) (st' := []) rfl ?_
          refine z_goto X de_X5_leadOfHoles_62 (tgt := 22) (by decide) ?_
          exact ih22 ((i_ + 1), (s_ + ((fh i_.toNatClampNeg) * (fy i_.toNatClampNeg)))) ⟨(by dsimp only; have e : (i_ + 1).toInt = i_.toInt + 1 := tI_add rfl (show (1 : Int32).toInt = 1 from by decide) (by omega); omega), (by dsimp only; have e : (i_ + 1).toInt = i_.toInt + 1 := tI_add rfl (show (1 : Int32).toInt = 1 from by decide) (by omega); rw [e, show (i_.toInt + 1).toNat = i_.toInt.toNat + 1 by omega]; rw [lw_yes (show (fp i_.toInt.toNat).toInt = wi from (show (fp i_.toNatClampNeg).toInt = wi by omega)), ← hs]; rfl)⟩ (by dsimp only; have e : (i_ + 1).toInt = i_.toInt + 1 := tI_add rfl (show (1 : Int32).toInt = 1 from by decide) (by omega); omega)
    · exact ⟨(by dsimp only; have e0 : (0 : Int32).toInt = 0 := (by decide); omega), (by dsimp only; have e0 : (0 : Int32).toInt = 0 := (by decide); rw [e0]; rfl)⟩
  ·
    refine z_run X be_X5_leadOfHoles_4_5 ke_X5_leadOfHoles_4_5 (lv' := [(0, .ref ring), (1, .int wq), (2, .int aq)]) (st' := [.ref ring]) rfl ?_
    refine z_get X fl_5_15 de_X5_leadOfHoles_5 0 rfl (v := .ref rx) rfl ?_
    refine z_goto X de_X5_leadOfHoles_8 (tgt := 15) (by decide) ?_
    refine z_run X be_X5_leadOfHoles_15_22 ke_X5_leadOfHoles_15_22 (lv' := [(5, .int 0), (4, .int 0), (3, .ref rx), (0, .ref ring), (1, .int wq), (2, .int aq)]) (st' := []) rfl ?_
    refine zloop (σ := Int32 × Int32) (fun z => [(5, .int z.1), (4, .int z.2), (3, .ref rx), (0, .ref ring), (1, .int wq), (2, .int aq)]) (fun z => []) (fun z => [(ring, ob 5 [.int hc, .ref rp, .ref rx, .ref ry, g_rr, .ref rh, g_rd, g_ph, g_po]), (rp, aI G 16 fp), (rx, aI G 16 fx), (ry, aI G 16 fy), (rh, aI G 16 fh)]) (fun z => (0 ≤ z.1.toInt ∧ z.1.toInt ≤ hci) ∧ (z.2 = lw fp fh fx wi z.1.toInt.toNat)) (fun z => (hci - z.1.toInt).toNat) (0, 0) ?_ ?_
    ·
      rintro ⟨i_, s_⟩ ⟨hi, hs⟩ ih22
      dsimp only at *
      refine z_run X be_X5_leadOfHoles_22_25 ke_X5_leadOfHoles_22_25 (lv' := [(5, .int i_), (4, .int s_), (3, .ref rx), (0, .ref ring), (1, .int wq), (2, .int aq)]) (st' := [.ref ring, .int i_]) rfl ?_
      refine z_get X fl_5_34 de_X5_leadOfHoles_25 0 rfl (v := .int hc) rfl ?_
      refine zc_ge X de_X5_leadOfHoles_28 (tgt := 65) (by decide) (a := i_.toInt) (b := hci) rfl hhc (fun c28_4 => ?_) (fun c28_4 => ?_)
      ·
        refine z_run X be_X5_leadOfHoles_65_67 ke_X5_leadOfHoles_65_67 (lv' := [(5, .int i_), (4, .int s_), (3, .ref rx), (0, .ref ring), (1, .int wq), (2, .int aq)]) (st' := [.int s_]) rfl ?_
        exact z_iret X rfl de_X5_leadOfHoles_67 (Nat.le_of_ble_eq_true rfl) (Nat.le_of_ble_eq_true rfl) ⟨s_, (by unfold axs; rw [if_pos (by omega), hs, show i_.toInt.toNat = hci.toNat by omega]), rfl, rfl⟩
      ·
        refine z_run X be_X5_leadOfHoles_31_32 ke_X5_leadOfHoles_31_32 (lv' := [(5, .int i_), (4, .int s_), (3, .ref rx), (0, .ref ring), (1, .int wq), (2, .int aq)]) (st' := [.ref ring]) rfl ?_
        refine z_get X fl_5_9 de_X5_leadOfHoles_32 0 rfl (v := .ref rp) rfl ?_
        refine z_run X be_X5_leadOfHoles_35_37 ke_X5_leadOfHoles_35_37 (lv' := [(5, .int i_), (4, .int s_), (3, .ref rx), (0, .ref ring), (1, .int wq), (2, .int aq)]) (st' := [.int i_, .ref rp]) rfl ?_
        refine z_iald X de_X5_leadOfHoles_37 1 rfl (vin rfl (by omega) (by omega)) (v := (fp i_.toNatClampNeg)) rfl ?_
        refine z_run X be_X5_leadOfHoles_38_39 ke_X5_leadOfHoles_38_39 (lv' := [(5, .int i_), (4, .int s_), (3, .ref rx), (0, .ref ring), (1, .int wq), (2, .int aq)]) (st' := [.int wq, .int (fp i_.toNatClampNeg)]) rfl ?_
        refine zc_ne X de_X5_leadOfHoles_39 (tgt := 59) (by decide) (a := (fp i_.toNatClampNeg).toInt) (b := wi) rfl hwq (fun c39_5 => ?_) (fun c39_5 => ?_)
        ·
          refine z_run X be_X5_leadOfHoles_59_62 ke_X5_leadOfHoles_59_62 (lv' := [(5, .int (i_ + 1)), (4, .int s_), (3, .ref rx), (0, .ref ring), (1, .int wq), (2, .int aq)]) (st' := []) rfl ?_
          refine z_goto X de_X5_leadOfHoles_62 (tgt := 22) (by decide) ?_
          exact ih22 ((i_ + 1), s_) ⟨(by dsimp only; have e : (i_ + 1).toInt = i_.toInt + 1 := tI_add rfl (show (1 : Int32).toInt = 1 from by decide) (by omega); omega), (by dsimp only; have e : (i_ + 1).toInt = i_.toInt + 1 := tI_add rfl (show (1 : Int32).toInt = 1 from by decide) (by omega); rw [e, show (i_.toInt + 1).toNat = i_.toInt.toNat + 1 by omega]; rw [lw_no (show ¬ (fp i_.toInt.toNat).toInt = wi from (show ¬ (fp i_.toNatClampNeg).toInt = wi by omega)), hs])⟩ (by dsimp only; have e : (i_ + 1).toInt = i_.toInt + 1 := tI_add rfl (show (1 : Int32).toInt = 1 from by decide) (by omega); omega)
        ·
          refine z_run X be_X5_leadOfHoles_42_45 ke_X5_leadOfHoles_42_45 (lv' := [(5, .int i_), (4, .int s_), (3, .ref rx), (0, .ref ring), (1, .int wq), (2, .int aq)]) (st' := [.ref ring, .int s_]) rfl ?_
          refine z_get X fl_5_24 de_X5_leadOfHoles_45 0 rfl (v := .ref rh) rfl ?_
          refine z_run X be_X5_leadOfHoles_48_50 ke_X5_leadOfHoles_48_50 (lv' := [(5, .int i_), (4, .int s_), (3, .ref rx), (0, .ref ring), (1, .int wq), (2, .int aq)]) (st' := [.int i_, .ref rh, .int s_]) rfl ?_
          refine z_iald X de_X5_leadOfHoles_50 4 rfl (vin rfl (by omega) (by omega)) (v := (fh i_.toNatClampNeg)) rfl ?_
          refine z_run X be_X5_leadOfHoles_51_54 ke_X5_leadOfHoles_51_54 (lv' := [(5, .int i_), (4, .int s_), (3, .ref rx), (0, .ref ring), (1, .int wq), (2, .int aq)]) (st' := [.int i_, .ref rx, .int (fh i_.toNatClampNeg), .int s_]) rfl ?_
          refine z_iald X de_X5_leadOfHoles_54 2 rfl (vin rfl (by omega) (by omega)) (v := (fx i_.toNatClampNeg)) rfl ?_
          refine z_run X be_X5_leadOfHoles_55_62 ke_X5_leadOfHoles_55_62 (lv' := [(5, .int (i_ + 1)), (4, .int (s_ + ((fh i_.toNatClampNeg) * (fx i_.toNatClampNeg)))), (3, .ref rx), (0, .ref ring), (1, .int wq), (2, .int aq)]) (st' := []) rfl ?_
          refine z_goto X de_X5_leadOfHoles_62 (tgt := 22) (by decide) ?_
          exact ih22 ((i_ + 1), (s_ + ((fh i_.toNatClampNeg) * (fx i_.toNatClampNeg)))) ⟨(by dsimp only; have e : (i_ + 1).toInt = i_.toInt + 1 := tI_add rfl (show (1 : Int32).toInt = 1 from by decide) (by omega); omega), (by dsimp only; have e : (i_ + 1).toInt = i_.toInt + 1 := tI_add rfl (show (1 : Int32).toInt = 1 from by decide) (by omega); rw [e, show (i_.toInt + 1).toNat = i_.toInt.toNat + 1 by omega]; rw [lw_yes (show (fp i_.toInt.toNat).toInt = wi from (show (fp i_.toNatClampNeg).toInt = wi by omega)), ← hs]; rfl)⟩ (by dsimp only; have e : (i_ + 1).toInt = i_.toInt + 1 := tI_add rfl (show (1 : Int32).toInt = 1 from by decide) (by omega); omega)
    · exact ⟨(by dsimp only; have e0 : (0 : Int32).toInt = 0 := (by decide); omega), (by dsimp only; have e0 : (0 : Int32).toInt = 0 := (by decide); rw [e0]; rfl)⟩

theorem de_X5_leadWithPound_3 : decode cX5_leadWithPound 3 = .ok (.invokevirtual 37, 3) := by decide +kernel
theorem de_X5_leadWithPound_9 : decode cX5_leadWithPound 9 = .ok (.getfield 30, 3) := by decide +kernel
theorem de_X5_leadWithPound_12 : decode cX5_leadWithPound 12 = .ok (.invokevirtual 41, 3) := by decide +kernel
theorem de_X5_leadWithPound_15 : decode cX5_leadWithPound 15 = .ok (.ifCond .eq 49, 3) := by decide +kernel
theorem de_X5_leadWithPound_65 : decode cX5_leadWithPound 65 = .ok (.ireturn, 1) := by decide +kernel
theorem de_X5_leadWithPound_19 : decode cX5_leadWithPound 19 = .ok (.getfield 9, 3) := by decide +kernel
theorem de_X5_leadWithPound_23 : decode cX5_leadWithPound 23 = .ok (.getfield 30, 3) := by decide +kernel
theorem de_X5_leadWithPound_26 : decode cX5_leadWithPound 26 = .ok (.iaload, 1) := by decide +kernel
theorem de_X5_leadWithPound_28 : decode cX5_leadWithPound 28 = .ok (.if_icmp .ne 36, 3) := by decide +kernel
theorem de_X5_leadWithPound_33 : decode cX5_leadWithPound 33 = .ok (.getfield 45, 3) := by decide +kernel
theorem de_X5_leadWithPound_37 : decode cX5_leadWithPound 37 = .ok (.ifCond .ne 15, 3) := by decide +kernel
theorem de_X5_leadWithPound_53 : decode cX5_leadWithPound 53 = .ok (.getfield 18, 3) := by decide +kernel
theorem de_X5_leadWithPound_57 : decode cX5_leadWithPound 57 = .ok (.getfield 30, 3) := by decide +kernel
theorem de_X5_leadWithPound_60 : decode cX5_leadWithPound 60 = .ok (.iaload, 1) := by decide +kernel
theorem de_X5_leadWithPound_41 : decode cX5_leadWithPound 41 = .ok (.getfield 15, 3) := by decide +kernel
theorem de_X5_leadWithPound_45 : decode cX5_leadWithPound 45 = .ok (.getfield 30, 3) := by decide +kernel
theorem de_X5_leadWithPound_48 : decode cX5_leadWithPound 48 = .ok (.iaload, 1) := by decide +kernel
theorem de_X5_leadWithPound_49 : decode cX5_leadWithPound 49 = .ok (.goto 12, 3) := by decide +kernel
abbrev be_X5_leadWithPound_0_3 : ZB := [(.aload_n 0, .null), (.iload_n 1, .null), (.iload_n 2, .null)]
theorem ke_X5_leadWithPound_0_3 : zchk cX5_leadWithPound be_X5_leadWithPound_0_3 0 = true ∧ zpc be_X5_leadWithPound_0_3 0 = 3 := ⟨by decide +kernel, rfl⟩
abbrev be_X5_leadWithPound_6_9 : ZB := [(.istore_n 3, .null), (.aload_n 0, .null), (.aload_n 0, .null)]
theorem ke_X5_leadWithPound_6_9 : zchk cX5_leadWithPound be_X5_leadWithPound_6_9 6 = true ∧ zpc be_X5_leadWithPound_6_9 6 = 9 := ⟨by decide +kernel, rfl⟩
abbrev be_X5_leadWithPound_64_65 : ZB := [(.iload_n 3, .null)]
theorem ke_X5_leadWithPound_64_65 : zchk cX5_leadWithPound be_X5_leadWithPound_64_65 64 = true ∧ zpc be_X5_leadWithPound_64_65 64 = 65 := ⟨by decide +kernel, rfl⟩
abbrev be_X5_leadWithPound_18_19 : ZB := [(.aload_n 0, .null)]
theorem ke_X5_leadWithPound_18_19 : zchk cX5_leadWithPound be_X5_leadWithPound_18_19 18 = true ∧ zpc be_X5_leadWithPound_18_19 18 = 19 := ⟨by decide +kernel, rfl⟩
abbrev be_X5_leadWithPound_22_23 : ZB := [(.aload_n 0, .null)]
theorem ke_X5_leadWithPound_22_23 : zchk cX5_leadWithPound be_X5_leadWithPound_22_23 22 = true ∧ zpc be_X5_leadWithPound_22_23 22 = 23 := ⟨by decide +kernel, rfl⟩
abbrev be_X5_leadWithPound_27_28 : ZB := [(.iload_n 1, .null)]
theorem ke_X5_leadWithPound_27_28 : zchk cX5_leadWithPound be_X5_leadWithPound_27_28 27 = true ∧ zpc be_X5_leadWithPound_27_28 27 = 28 := ⟨by decide +kernel, rfl⟩
abbrev be_X5_leadWithPound_31_33 : ZB := [(.iload_n 3, .null), (.aload_n 0, .null)]
theorem ke_X5_leadWithPound_31_33 : zchk cX5_leadWithPound be_X5_leadWithPound_31_33 31 = true ∧ zpc be_X5_leadWithPound_31_33 31 = 33 := ⟨by decide +kernel, rfl⟩
abbrev be_X5_leadWithPound_36_37 : ZB := [(.iload_n 2, .null)]
theorem ke_X5_leadWithPound_36_37 : zchk cX5_leadWithPound be_X5_leadWithPound_36_37 36 = true ∧ zpc be_X5_leadWithPound_36_37 36 = 37 := ⟨by decide +kernel, rfl⟩
abbrev be_X5_leadWithPound_52_53 : ZB := [(.aload_n 0, .null)]
theorem ke_X5_leadWithPound_52_53 : zchk cX5_leadWithPound be_X5_leadWithPound_52_53 52 = true ∧ zpc be_X5_leadWithPound_52_53 52 = 53 := ⟨by decide +kernel, rfl⟩
abbrev be_X5_leadWithPound_56_57 : ZB := [(.aload_n 0, .null)]
theorem ke_X5_leadWithPound_56_57 : zchk cX5_leadWithPound be_X5_leadWithPound_56_57 56 = true ∧ zpc be_X5_leadWithPound_56_57 56 = 57 := ⟨by decide +kernel, rfl⟩
abbrev be_X5_leadWithPound_61_65 : ZB := [(.imul, .null), (.iadd, .null), (.istore_n 3, .null), (.iload_n 3, .null)]
theorem ke_X5_leadWithPound_61_65 : zchk cX5_leadWithPound be_X5_leadWithPound_61_65 61 = true ∧ zpc be_X5_leadWithPound_61_65 61 = 65 := ⟨by decide +kernel, rfl⟩
abbrev be_X5_leadWithPound_40_41 : ZB := [(.aload_n 0, .null)]
theorem ke_X5_leadWithPound_40_41 : zchk cX5_leadWithPound be_X5_leadWithPound_40_41 40 = true ∧ zpc be_X5_leadWithPound_40_41 40 = 41 := ⟨by decide +kernel, rfl⟩
abbrev be_X5_leadWithPound_44_45 : ZB := [(.aload_n 0, .null)]
theorem ke_X5_leadWithPound_44_45 : zchk cX5_leadWithPound be_X5_leadWithPound_44_45 44 = true ∧ zpc be_X5_leadWithPound_44_45 44 = 45 := ⟨by decide +kernel, rfl⟩
set_option maxHeartbeats 4000000 in
set_option maxRecDepth 100000 in
theorem ce_X5_leadWithPound (l : Launch) (G : KG) (ring : Nat) (hc : Int32) (rp : Nat) (rx : Nat) (ry : Nat) (g_rr : Value) (rh : Nat) (g_rd : Value) (ph : Int32) (po : Int32) (fp : Nat → Int32) (fx : Nat → Int32) (fy : Nat → Int32) (fh : Nat → Int32) (wq : Int32) (aq : Int32) (hci : Int) (wi : Int) (ai : Int) (phi : Int) (hhc : hc.toInt = hci) (hwq : wq.toInt = wi) (haq : aq.toInt = ai) (hph : ph.toInt = phi) (hc0 : 0 ≤ hci ∧ hci ≤ 16) : Ct l G yX5_leadWithPound cX5_leadWithPound 4 (some .int) { frames := 1, cells := 0, slots := 0, locals := 25 } [.ref ring, .int wq, .int aq] [(ring, ob 5 [.int hc, .ref rp, .ref rx, .ref ry, g_rr, .ref rh, g_rd, .int ph, .int po]), (rp, aI G 16 fp), (rx, aI G 16 fx), (ry, aI G 16 fy), (rh, aI G 16 fh)] (fun r w1 => ∃ (rz : Int32), (rz = lwp hci fp fh (axs ai fx fy) wi ph po) ∧ r = some (.int rz) ∧ w1 = [(ring, ob 5 [.int hc, .ref rp, .ref rx, .ref ry, g_rr, .ref rh, g_rd, .int ph, .int po]), (rp, aI G 16 fp), (rx, aI G 16 fx), (ry, aI G 16 fy), (rh, aI G 16 fh)]) := by
  refine ct_of [(0, .ref ring), (1, .int wq), (2, .int aq)] (by decide) (Nat.le_of_ble_eq_true rfl) rfl ?_
  intro p0 e0 s0 m0 args0 below0 meth0 c0 A X
  refine z_run X be_X5_leadWithPound_0_3 ke_X5_leadWithPound_0_3 (lv' := [(0, .ref ring), (1, .int wq), (2, .int aq)]) (st' := [.int aq, .int wq, .ref ring]) rfl ?_
  refine z_callV X k_5_37 (ce_X5_leadOfHoles l G ring hc rp rx ry g_rr rh g_rd (.int ph) (.int po) fp fx fy fh wq aq hci wi ai hhc hwq haq (by omega)) de_X5_leadWithPound_3 0 rfl rfl rfl ⟨Nat.le_of_ble_eq_true rfl, Nat.le_of_ble_eq_true rfl⟩ ⟨Nat.le_of_ble_eq_true rfl, Nat.le_of_ble_eq_true rfl⟩ rfl (rest := []) (As := [.int wq, .int aq]) rfl (Nat.le_of_ble_eq_true rfl) [0, 1, 2, 3, 4] [] rfl (by decide) (wr := []) rfl (by decide) (by decide) ?_
  rintro _ _ ⟨rz_1, f3_2, rfl, rfl⟩
  refine Z.at (pc' := 6) (st' := [.int rz_1]) (ws' := [(ring, ob 5 [.int hc, .ref rp, .ref rx, .ref ry, g_rr, .ref rh, g_rd, .int ph, .int po]), (rp, aI G 16 fp), (rx, aI G 16 fx), (ry, aI G 16 fy), (rh, aI G 16 fh)]) (kc' := 0) (ks' := 0) rfl rfl rfl rfl rfl ?_
  refine z_run X be_X5_leadWithPound_6_9 ke_X5_leadWithPound_6_9 (lv' := [(3, .int rz_1), (0, .ref ring), (1, .int wq), (2, .int aq)]) (st' := [.ref ring, .ref ring]) rfl ?_
  refine z_get X fl_5_30 de_X5_leadWithPound_9 0 rfl (v := .int ph) rfl ?_
  refine z_callV X k_5_41 (ce_X5_isHoleL l G ring hc (.ref rp) (.ref rx) (.ref ry) g_rr (.ref rh) g_rd (.int ph) (.int po) ph hci phi hhc hph) de_X5_leadWithPound_12 0 rfl rfl rfl ⟨Nat.le_of_ble_eq_true rfl, Nat.le_of_ble_eq_true rfl⟩ ⟨Nat.le_of_ble_eq_true rfl, Nat.le_of_ble_eq_true rfl⟩ rfl (rest := []) (As := [.int ph]) rfl (Nat.le_of_ble_eq_true rfl) [0] [1, 2, 3, 4] rfl (by decide) (wr := [(rp, aI G 16 fp), (rx, aI G 16 fx), (ry, aI G 16 fy), (rh, aI G 16 fh)]) rfl (by decide) (by decide) ?_
  rintro _ _ ⟨rfl, rfl⟩
  refine Z.at (pc' := 15) (st' := [.int (zb (decide (0 ≤ phi ∧ phi < hci)))]) (ws' := [(rp, aI G 16 fp), (rx, aI G 16 fx), (ry, aI G 16 fy), (rh, aI G 16 fh), (ring, ob 5 [.int hc, .ref rp, .ref rx, .ref ry, g_rr, .ref rh, g_rd, .int ph, .int po])]) (kc' := 0) (ks' := 0) rfl rfl rfl rfl rfl ?_
  refine zi_eq_zb X de_X5_leadWithPound_15 (tgt := 64) (by decide) (fun c15_3 => ?_) (fun c15_3 => ?_)
  ·
    refine z_run X be_X5_leadWithPound_64_65 ke_X5_leadWithPound_64_65 (lv' := [(3, .int rz_1), (0, .ref ring), (1, .int wq), (2, .int aq)]) (st' := [.int rz_1]) rfl ?_
    refine Z.sub (lv' := []) [] rfl [4, 0, 1, 2, 3] (ws' := [(ring, ob 5 [.int hc, .ref rp, .ref rx, .ref ry, g_rr, .ref rh, g_rd, .int ph, .int po]), (rp, aI G 16 fp), (rx, aI G 16 fx), (ry, aI G 16 fy), (rh, aI G 16 fh)]) rfl (by decide) ?_
    exact z_iret X rfl de_X5_leadWithPound_65 (Nat.le_of_ble_eq_true rfl) (Nat.le_of_ble_eq_true rfl) ⟨rz_1, (by unfold lwp; rw [if_neg (by omega), f3_2]), rfl, rfl⟩
  ·
    refine z_run X be_X5_leadWithPound_18_19 ke_X5_leadWithPound_18_19 (lv' := [(3, .int rz_1), (0, .ref ring), (1, .int wq), (2, .int aq)]) (st' := [.ref ring]) rfl ?_
    refine z_get X fl_5_9 de_X5_leadWithPound_19 4 rfl (v := .ref rp) rfl ?_
    refine z_run X be_X5_leadWithPound_22_23 ke_X5_leadWithPound_22_23 (lv' := [(3, .int rz_1), (0, .ref ring), (1, .int wq), (2, .int aq)]) (st' := [.ref ring, .ref rp]) rfl ?_
    refine z_get X fl_5_30 de_X5_leadWithPound_23 4 rfl (v := .int ph) rfl ?_
    refine z_iald X de_X5_leadWithPound_26 0 rfl (vin hph (by omega) (by omega)) (v := (fp ph.toNatClampNeg)) rfl ?_
    refine z_run X be_X5_leadWithPound_27_28 ke_X5_leadWithPound_27_28 (lv' := [(3, .int rz_1), (0, .ref ring), (1, .int wq), (2, .int aq)]) (st' := [.int wq, .int (fp ph.toNatClampNeg)]) rfl ?_
    refine zc_ne X de_X5_leadWithPound_28 (tgt := 64) (by decide) (a := (fp ph.toNatClampNeg).toInt) (b := wi) rfl hwq (fun c28_4 => ?_) (fun c28_4 => ?_)
    ·
      refine z_run X be_X5_leadWithPound_64_65 ke_X5_leadWithPound_64_65 (lv' := [(3, .int rz_1), (0, .ref ring), (1, .int wq), (2, .int aq)]) (st' := [.int rz_1]) rfl ?_
      refine Z.sub (lv' := []) [] rfl [4, 0, 1, 2, 3] (ws' := [(ring, ob 5 [.int hc, .ref rp, .ref rx, .ref ry, g_rr, .ref rh, g_rd, .int ph, .int po]), (rp, aI G 16 fp), (rx, aI G 16 fx), (ry, aI G 16 fy), (rh, aI G 16 fh)]) rfl (by decide) ?_
      exact z_iret X rfl de_X5_leadWithPound_65 (Nat.le_of_ble_eq_true rfl) (Nat.le_of_ble_eq_true rfl) ⟨rz_1, (by unfold lwp; rw [if_neg (by omega), f3_2]), rfl, rfl⟩
    ·
      refine z_run X be_X5_leadWithPound_31_33 ke_X5_leadWithPound_31_33 (lv' := [(3, .int rz_1), (0, .ref ring), (1, .int wq), (2, .int aq)]) (st' := [.ref ring, .int rz_1]) rfl ?_
      refine z_get X fl_5_45 de_X5_leadWithPound_33 4 rfl (v := .int po) rfl ?_
      refine z_run X be_X5_leadWithPound_36_37 ke_X5_leadWithPound_36_37 (lv' := [(3, .int rz_1), (0, .ref ring), (1, .int wq), (2, .int aq)]) (st' := [.int aq, .int po, .int rz_1]) rfl ?_
      refine zi_ne X de_X5_leadWithPound_37 (tgt := 52) (by decide) (a := ai) haq (fun c37_5 => ?_) (fun c37_5 => ?_)
      ·
        refine z_run X be_X5_leadWithPound_52_53 ke_X5_leadWithPound_52_53 (lv' := [(3, .int rz_1), (0, .ref ring), (1, .int wq), (2, .int aq)]) (st' := [.ref ring, .int po, .int rz_1]) rfl ?_
        refine z_get X fl_5_18 de_X5_leadWithPound_53 4 rfl (v := .ref ry) rfl ?_
        refine z_run X be_X5_leadWithPound_56_57 ke_X5_leadWithPound_56_57 (lv' := [(3, .int rz_1), (0, .ref ring), (1, .int wq), (2, .int aq)]) (st' := [.ref ring, .ref ry, .int po, .int rz_1]) rfl ?_
        refine z_get X fl_5_30 de_X5_leadWithPound_57 4 rfl (v := .int ph) rfl ?_
        refine z_iald X de_X5_leadWithPound_60 2 rfl (vin hph (by omega) (by omega)) (v := (fy ph.toNatClampNeg)) rfl ?_
        refine z_run X be_X5_leadWithPound_61_65 ke_X5_leadWithPound_61_65 (lv' := [(3, .int (rz_1 + (po * (fy ph.toNatClampNeg)))), (0, .ref ring), (1, .int wq), (2, .int aq)]) (st' := [.int (rz_1 + (po * (fy ph.toNatClampNeg)))]) rfl ?_
        refine Z.sub (lv' := []) [] rfl [4, 0, 1, 2, 3] (ws' := [(ring, ob 5 [.int hc, .ref rp, .ref rx, .ref ry, g_rr, .ref rh, g_rd, .int ph, .int po]), (rp, aI G 16 fp), (rx, aI G 16 fx), (ry, aI G 16 fy), (rh, aI G 16 fh)]) rfl (by decide) ?_
        exact z_iret X rfl de_X5_leadWithPound_65 (Nat.le_of_ble_eq_true rfl) (Nat.le_of_ble_eq_true rfl) ⟨(rz_1 + (po * (fy ph.toNatClampNeg))), (by unfold lwp; rw [if_pos ⟨by omega, by omega⟩, f3_2]; unfold axs; rw [if_neg (by omega)]), rfl, rfl⟩
      ·
        refine z_run X be_X5_leadWithPound_40_41 ke_X5_leadWithPound_40_41 (lv' := [(3, .int rz_1), (0, .ref ring), (1, .int wq), (2, .int aq)]) (st' := [.ref ring, .int po, .int rz_1]) rfl ?_
        refine z_get X fl_5_15 de_X5_leadWithPound_41 4 rfl (v := .ref rx) rfl ?_
        refine z_run X be_X5_leadWithPound_44_45 ke_X5_leadWithPound_44_45 (lv' := [(3, .int rz_1), (0, .ref ring), (1, .int wq), (2, .int aq)]) (st' := [.ref ring, .ref rx, .int po, .int rz_1]) rfl ?_
        refine z_get X fl_5_30 de_X5_leadWithPound_45 4 rfl (v := .int ph) rfl ?_
        refine z_iald X de_X5_leadWithPound_48 1 rfl (vin hph (by omega) (by omega)) (v := (fx ph.toNatClampNeg)) rfl ?_
        refine z_goto X de_X5_leadWithPound_49 (tgt := 61) (by decide) ?_
        refine z_run X be_X5_leadWithPound_61_65 ke_X5_leadWithPound_61_65 (lv' := [(3, .int (rz_1 + (po * (fx ph.toNatClampNeg)))), (0, .ref ring), (1, .int wq), (2, .int aq)]) (st' := [.int (rz_1 + (po * (fx ph.toNatClampNeg)))]) rfl ?_
        refine Z.sub (lv' := []) [] rfl [4, 0, 1, 2, 3] (ws' := [(ring, ob 5 [.int hc, .ref rp, .ref rx, .ref ry, g_rr, .ref rh, g_rd, .int ph, .int po]), (rp, aI G 16 fp), (rx, aI G 16 fx), (ry, aI G 16 fy), (rh, aI G 16 fh)]) rfl (by decide) ?_
        exact z_iret X rfl de_X5_leadWithPound_65 (Nat.le_of_ble_eq_true rfl) (Nat.le_of_ble_eq_true rfl) ⟨(rz_1 + (po * (fx ph.toNatClampNeg))), (by unfold lwp; rw [if_pos ⟨by omega, by omega⟩, f3_2]; unfold axs; rw [if_pos (by omega)]), rfl, rfl⟩

theorem de_X11_leads_4 : decode cX11_leads 4 = .ok (.if_icmp .ge 16, 3) := by decide +kernel
theorem de_X11_leads_24 : decode cX11_leads 24 = .ok (.getfield 63, 3) := by decide +kernel
theorem de_X11_leads_27 : decode cX11_leads 27 = .ok (.if_icmp .ge 80, 3) := by decide +kernel
theorem de_X11_leads_107 : decode cX11_leads 107 = .ok (.return_, 1) := by decide +kernel
theorem de_X11_leads_31 : decode cX11_leads 31 = .ok (.getfield 82, 3) := by decide +kernel
theorem de_X11_leads_35 : decode cX11_leads 35 = .ok (.iaload, 1) := by decide +kernel
theorem de_X11_leads_38 : decode cX11_leads 38 = .ok (.if_icmp .ne 7, 3) := by decide +kernel
theorem de_X11_leads_50 : decode cX11_leads 50 = .ok (.getfield 166, 3) := by decide +kernel
theorem de_X11_leads_55 : decode cX11_leads 55 = .ok (.getfield 66, 3) := by decide +kernel
theorem de_X11_leads_59 : decode cX11_leads 59 = .ok (.iaload, 1) := by decide +kernel
theorem de_X11_leads_62 : decode cX11_leads 62 = .ok (.iaload, 1) := by decide +kernel
theorem de_X11_leads_66 : decode cX11_leads 66 = .ok (.getfield 69, 3) := by decide +kernel
theorem de_X11_leads_70 : decode cX11_leads 70 = .ok (.iaload, 1) := by decide +kernel
theorem de_X11_leads_73 : decode cX11_leads 73 = .ok (.iastore, 1) := by decide +kernel
theorem de_X11_leads_75 : decode cX11_leads 75 = .ok (.getfield 166, 3) := by decide +kernel
theorem de_X11_leads_80 : decode cX11_leads 80 = .ok (.getfield 66, 3) := by decide +kernel
theorem de_X11_leads_84 : decode cX11_leads 84 = .ok (.iaload, 1) := by decide +kernel
theorem de_X11_leads_89 : decode cX11_leads 89 = .ok (.iaload, 1) := by decide +kernel
theorem de_X11_leads_93 : decode cX11_leads 93 = .ok (.getfield 76, 3) := by decide +kernel
theorem de_X11_leads_97 : decode cX11_leads 97 = .ok (.iaload, 1) := by decide +kernel
theorem de_X11_leads_100 : decode cX11_leads 100 = .ok (.iastore, 1) := by decide +kernel
theorem de_X11_leads_104 : decode cX11_leads 104 = .ok (.goto (-82), 3) := by decide +kernel
theorem de_X11_leads_42 : decode cX11_leads 42 = .ok (.goto 4, 3) := by decide +kernel
theorem de_X11_leads_8 : decode cX11_leads 8 = .ok (.getfield 166, 3) := by decide +kernel
theorem de_X11_leads_13 : decode cX11_leads 13 = .ok (.iastore, 1) := by decide +kernel
theorem de_X11_leads_17 : decode cX11_leads 17 = .ok (.goto (-15), 3) := by decide +kernel
abbrev be_X11_leads_0_2 : ZB := [(.iconst 0, .int 0), (.istore_n 3, .null)]
theorem ke_X11_leads_0_2 : zchk cX11_leads be_X11_leads_0_2 0 = true ∧ zpc be_X11_leads_0_2 0 = 2 := ⟨by decide +kernel, rfl⟩
abbrev be_X11_leads_2_4 : ZB := [(.iload_n 3, .null), (.iconst 4, .int 4)]
theorem ke_X11_leads_2_4 : zchk cX11_leads be_X11_leads_2_4 2 = true ∧ zpc be_X11_leads_2_4 2 = 4 := ⟨by decide +kernel, rfl⟩
abbrev be_X11_leads_20_22 : ZB := [(.iconst 0, .int 0), (.istore_n 3, .null)]
theorem ke_X11_leads_20_22 : zchk cX11_leads be_X11_leads_20_22 20 = true ∧ zpc be_X11_leads_20_22 20 = 22 := ⟨by decide +kernel, rfl⟩
abbrev be_X11_leads_22_24 : ZB := [(.iload_n 3, .null), (.aload_n 0, .null)]
theorem ke_X11_leads_22_24 : zchk cX11_leads be_X11_leads_22_24 22 = true ∧ zpc be_X11_leads_22_24 22 = 24 := ⟨by decide +kernel, rfl⟩
abbrev be_X11_leads_30_31 : ZB := [(.aload_n 0, .null)]
theorem ke_X11_leads_30_31 : zchk cX11_leads be_X11_leads_30_31 30 = true ∧ zpc be_X11_leads_30_31 30 = 31 := ⟨by decide +kernel, rfl⟩
abbrev be_X11_leads_34_35 : ZB := [(.iload_n 3, .null)]
theorem ke_X11_leads_34_35 : zchk cX11_leads be_X11_leads_34_35 34 = true ∧ zpc be_X11_leads_34_35 34 = 35 := ⟨by decide +kernel, rfl⟩
abbrev be_X11_leads_36_38 : ZB := [(.iload_n 3, .null), (.iload_n 1, .null)]
theorem ke_X11_leads_36_38 : zchk cX11_leads be_X11_leads_36_38 36 = true ∧ zpc be_X11_leads_36_38 36 = 38 := ⟨by decide +kernel, rfl⟩
abbrev be_X11_leads_45_50 : ZB := [(.iconst 0, .int 0), (.iadd, .null), (.istore 4, .null), (.aload_n 0, .null)]
theorem ke_X11_leads_45_50 : zchk cX11_leads be_X11_leads_45_50 45 = true ∧ zpc be_X11_leads_45_50 45 = 50 := ⟨by decide +kernel, rfl⟩
abbrev be_X11_leads_53_55 : ZB := [(.iconst 2, .int 2), (.aload_n 0, .null)]
theorem ke_X11_leads_53_55 : zchk cX11_leads be_X11_leads_53_55 53 = true ∧ zpc be_X11_leads_53_55 53 = 55 := ⟨by decide +kernel, rfl⟩
abbrev be_X11_leads_58_59 : ZB := [(.iload_n 3, .null)]
theorem ke_X11_leads_58_59 : zchk cX11_leads be_X11_leads_58_59 58 = true ∧ zpc be_X11_leads_58_59 58 = 59 := ⟨by decide +kernel, rfl⟩
abbrev be_X11_leads_60_62 : ZB := [(.imul, .null), (.dup2, .null)]
theorem ke_X11_leads_60_62 : zchk cX11_leads be_X11_leads_60_62 60 = true ∧ zpc be_X11_leads_60_62 60 = 62 := ⟨by decide +kernel, rfl⟩
abbrev be_X11_leads_63_66 : ZB := [(.iload 4, .null), (.aload_n 0, .null)]
theorem ke_X11_leads_63_66 : zchk cX11_leads be_X11_leads_63_66 63 = true ∧ zpc be_X11_leads_63_66 63 = 66 := ⟨by decide +kernel, rfl⟩
abbrev be_X11_leads_69_70 : ZB := [(.iload_n 3, .null)]
theorem ke_X11_leads_69_70 : zchk cX11_leads be_X11_leads_69_70 69 = true ∧ zpc be_X11_leads_69_70 69 = 70 := ⟨by decide +kernel, rfl⟩
abbrev be_X11_leads_71_73 : ZB := [(.imul, .null), (.iadd, .null)]
theorem ke_X11_leads_71_73 : zchk cX11_leads be_X11_leads_71_73 71 = true ∧ zpc be_X11_leads_71_73 71 = 73 := ⟨by decide +kernel, rfl⟩
abbrev be_X11_leads_74_75 : ZB := [(.aload_n 0, .null)]
theorem ke_X11_leads_74_75 : zchk cX11_leads be_X11_leads_74_75 74 = true ∧ zpc be_X11_leads_74_75 74 = 75 := ⟨by decide +kernel, rfl⟩
abbrev be_X11_leads_78_80 : ZB := [(.iconst 2, .int 2), (.aload_n 0, .null)]
theorem ke_X11_leads_78_80 : zchk cX11_leads be_X11_leads_78_80 78 = true ∧ zpc be_X11_leads_78_80 78 = 80 := ⟨by decide +kernel, rfl⟩
abbrev be_X11_leads_83_84 : ZB := [(.iload_n 3, .null)]
theorem ke_X11_leads_83_84 : zchk cX11_leads be_X11_leads_83_84 83 = true ∧ zpc be_X11_leads_83_84 83 = 84 := ⟨by decide +kernel, rfl⟩
abbrev be_X11_leads_85_89 : ZB := [(.imul, .null), (.iconst 1, .int 1), (.iadd, .null), (.dup2, .null)]
theorem ke_X11_leads_85_89 : zchk cX11_leads be_X11_leads_85_89 85 = true ∧ zpc be_X11_leads_85_89 85 = 89 := ⟨by decide +kernel, rfl⟩
abbrev be_X11_leads_90_93 : ZB := [(.iload 4, .null), (.aload_n 0, .null)]
theorem ke_X11_leads_90_93 : zchk cX11_leads be_X11_leads_90_93 90 = true ∧ zpc be_X11_leads_90_93 90 = 93 := ⟨by decide +kernel, rfl⟩
abbrev be_X11_leads_96_97 : ZB := [(.iload_n 3, .null)]
theorem ke_X11_leads_96_97 : zchk cX11_leads be_X11_leads_96_97 96 = true ∧ zpc be_X11_leads_96_97 96 = 97 := ⟨by decide +kernel, rfl⟩
abbrev be_X11_leads_98_100 : ZB := [(.imul, .null), (.iadd, .null)]
theorem ke_X11_leads_98_100 : zchk cX11_leads be_X11_leads_98_100 98 = true ∧ zpc be_X11_leads_98_100 98 = 100 := ⟨by decide +kernel, rfl⟩
abbrev be_X11_leads_101_104 : ZB := [(.iinc 3 1, .int 1)]
theorem ke_X11_leads_101_104 : zchk cX11_leads be_X11_leads_101_104 101 = true ∧ zpc be_X11_leads_101_104 101 = 104 := ⟨by decide +kernel, rfl⟩
abbrev be_X11_leads_41_42 : ZB := [(.iload_n 2, .null)]
theorem ke_X11_leads_41_42 : zchk cX11_leads be_X11_leads_41_42 41 = true ∧ zpc be_X11_leads_41_42 41 = 42 := ⟨by decide +kernel, rfl⟩
abbrev be_X11_leads_46_50 : ZB := [(.iadd, .null), (.istore 4, .null), (.aload_n 0, .null)]
theorem ke_X11_leads_46_50 : zchk cX11_leads be_X11_leads_46_50 46 = true ∧ zpc be_X11_leads_46_50 46 = 50 := ⟨by decide +kernel, rfl⟩
abbrev be_X11_leads_7_8 : ZB := [(.aload_n 0, .null)]
theorem ke_X11_leads_7_8 : zchk cX11_leads be_X11_leads_7_8 7 = true ∧ zpc be_X11_leads_7_8 7 = 8 := ⟨by decide +kernel, rfl⟩
abbrev be_X11_leads_11_13 : ZB := [(.iload_n 3, .null), (.iconst 0, .int 0)]
theorem ke_X11_leads_11_13 : zchk cX11_leads be_X11_leads_11_13 11 = true ∧ zpc be_X11_leads_11_13 11 = 13 := ⟨by decide +kernel, rfl⟩
abbrev be_X11_leads_14_17 : ZB := [(.iinc 3 1, .int 1)]
theorem ke_X11_leads_14_17 : zchk cX11_leads be_X11_leads_14_17 14 = true ∧ zpc be_X11_leads_14_17 14 = 17 := ⟨by decide +kernel, rfl⟩
set_option maxHeartbeats 4000000 in
set_option maxRecDepth 100000 in
theorem ce_X11_leads (l : Launch) (G : KG) (mo : Nat) (th : Int32) (g_rows : Value) (g_row : Value) (hc : Int32) (r_planeOf : Nat) (r_holeX : Nat) (r_holeY : Nat) (r_room : Nat) (r_ounces : Nat) (r_deepOf : Nat) (sc : Int32) (r_factor : Nat) (r_otherOf : Nat) (r_isApart : Nat) (g_apartX : Value) (g_apartY : Value) (cc : Int32) (r_weight : Nat) (r_tape : Nat) (n : Int32) (p : Int32) (lim : Int32) (fi : Int32) (g_crossOf : Value) (g_trueX : Value) (g_trueY : Value) (g_thoughtX : Value) (g_thoughtY : Value) (g_poundHole : Int32) (g_poundOunces : Int32) (r_lead : Nat) (g_trials : Value) (g_trialSpeed : Value) (g_isWhole : Value) (g_trialX : Value) (g_trialY : Value) (g_trialGive : Value) (g_trialLead : Value) (g_baseX : Value) (g_baseY : Value) (g_timesPull : Value) (g_trialBaseX : Value) (g_trialBaseY : Value) (g_trialTimes : Value) (g_pulls : Value) (g_pullMany : Value) (g_sizes : Value) (g_merged : Value) (g_nextHole : Value) (g_nextOunces : Value) (g_leftBehind : Value) (g_manUp : Value) (g_manLow : Value) (g_asked : Value) (g_lowOf : Value) (g_highOf : Value) (g_tried : Value) (g_found : Value) (g_askedMany : Value) (g_mostHoles : Value) (g_isFound : Value) (g_foundRest : Value) (g_foundOunces : Value) (g_question : Value) (g_questionSpeed : Value) (g_ounceRest : Value) (g_parts : Value) (g_filled : Value) (g_cogAt : Value) (g_cogBest : Value) (g_isOrdered : Value) (g_orderSize : Value) (g_isKept : Value) (g_kept : Value) (g_keptAt : Value) (fp : Nat → Int32) (fx : Nat → Int32) (fy : Nat → Int32) (fo : Nat → Int32) (fl : Nat → Int32) (uq : Int32) (mq : Int32) (hci : Int) (ui : Int) (hhc : hc.toInt = hci) (huq : uq.toInt = ui) (hc0 : 0 ≤ hci ∧ hci ≤ 16) (hpl : ∀ j : Nat, (j : Int) < hci → 0 ≤ (fp j).toInt ∧ (fp j).toInt ≤ 1) : Ct l G yX11_leads cX11_leads 5 none { frames := 0, cells := 0, slots := 0, locals := 0 } [.ref mo, .int uq, .int mq] [(mo, ob 11 [.int th, g_rows, g_row, .int hc, .ref r_planeOf, .ref r_holeX, .ref r_holeY, .ref r_room, .ref r_ounces, .ref r_deepOf, .int sc, .ref r_factor, .ref r_otherOf, .ref r_isApart, g_apartX, g_apartY, .int cc, .ref r_weight, .ref r_tape, .int n, .int p, .int lim, .int fi, g_crossOf, g_trueX, g_trueY, g_thoughtX, g_thoughtY, .int g_poundHole, .int g_poundOunces, .ref r_lead, g_trials, g_trialSpeed, g_isWhole, g_trialX, g_trialY, g_trialGive, g_trialLead, g_baseX, g_baseY, g_timesPull, g_trialBaseX, g_trialBaseY, g_trialTimes, g_pulls, g_pullMany, g_sizes, g_merged, g_nextHole, g_nextOunces, g_leftBehind, g_manUp, g_manLow, g_asked, g_lowOf, g_highOf, g_tried, g_found, g_askedMany, g_mostHoles, g_isFound, g_foundRest, g_foundOunces, g_question, g_questionSpeed, g_ounceRest, g_parts, g_filled, g_cogAt, g_cogBest, g_isOrdered, g_orderSize, g_isKept, g_kept, g_keptAt]), (r_lead, aI G 4 fl), (r_planeOf, aI G 16 fp), (r_holeX, aI G 16 fx), (r_holeY, aI G 16 fy), (r_ounces, aI G 16 fo)] (fun r w1 => ∃ (fl2 : Nat → Int32), (∀ j : Nat, j < 4 → fl2 j = ldq fp (its fo uq mq) fx fy hci.toNat j) ∧ r = none ∧ w1 = [(mo, ob 11 [.int th, g_rows, g_row, .int hc, .ref r_planeOf, .ref r_holeX, .ref r_holeY, .ref r_room, .ref r_ounces, .ref r_deepOf, .int sc, .ref r_factor, .ref r_otherOf, .ref r_isApart, g_apartX, g_apartY, .int cc, .ref r_weight, .ref r_tape, .int n, .int p, .int lim, .int fi, g_crossOf, g_trueX, g_trueY, g_thoughtX, g_thoughtY, .int g_poundHole, .int g_poundOunces, .ref r_lead, g_trials, g_trialSpeed, g_isWhole, g_trialX, g_trialY, g_trialGive, g_trialLead, g_baseX, g_baseY, g_timesPull, g_trialBaseX, g_trialBaseY, g_trialTimes, g_pulls, g_pullMany, g_sizes, g_merged, g_nextHole, g_nextOunces, g_leftBehind, g_manUp, g_manLow, g_asked, g_lowOf, g_highOf, g_tried, g_found, g_askedMany, g_mostHoles, g_isFound, g_foundRest, g_foundOunces, g_question, g_questionSpeed, g_ounceRest, g_parts, g_filled, g_cogAt, g_cogBest, g_isOrdered, g_orderSize, g_isKept, g_kept, g_keptAt]), (r_lead, aI G 4 fl2), (r_planeOf, aI G 16 fp), (r_holeX, aI G 16 fx), (r_holeY, aI G 16 fy), (r_ounces, aI G 16 fo)]) := by
  refine ct_of [(0, .ref mo), (1, .int uq), (2, .int mq)] (by decide) (Nat.le_of_ble_eq_true rfl) rfl ?_
  intro p0 e0 s0 m0 args0 below0 meth0 c0 A X
  refine z_run X be_X11_leads_0_2 ke_X11_leads_0_2 (lv' := [(3, .int 0), (0, .ref mo), (1, .int uq), (2, .int mq)]) (st' := []) rfl ?_
  refine zloop (σ := Int32 × (Nat → Int32)) (fun z => [(3, .int z.1), (0, .ref mo), (1, .int uq), (2, .int mq)]) (fun z => []) (fun z => [(mo, ob 11 [.int th, g_rows, g_row, .int hc, .ref r_planeOf, .ref r_holeX, .ref r_holeY, .ref r_room, .ref r_ounces, .ref r_deepOf, .int sc, .ref r_factor, .ref r_otherOf, .ref r_isApart, g_apartX, g_apartY, .int cc, .ref r_weight, .ref r_tape, .int n, .int p, .int lim, .int fi, g_crossOf, g_trueX, g_trueY, g_thoughtX, g_thoughtY, .int g_poundHole, .int g_poundOunces, .ref r_lead, g_trials, g_trialSpeed, g_isWhole, g_trialX, g_trialY, g_trialGive, g_trialLead, g_baseX, g_baseY, g_timesPull, g_trialBaseX, g_trialBaseY, g_trialTimes, g_pulls, g_pullMany, g_sizes, g_merged, g_nextHole, g_nextOunces, g_leftBehind, g_manUp, g_manLow, g_asked, g_lowOf, g_highOf, g_tried, g_found, g_askedMany, g_mostHoles, g_isFound, g_foundRest, g_foundOunces, g_question, g_questionSpeed, g_ounceRest, g_parts, g_filled, g_cogAt, g_cogBest, g_isOrdered, g_orderSize, g_isKept, g_kept, g_keptAt]), (r_lead, aI G 4 z.2), (r_planeOf, aI G 16 fp), (r_holeX, aI G 16 fx), (r_holeY, aI G 16 fy), (r_ounces, aI G 16 fo)]) (fun z => (0 ≤ z.1.toInt ∧ z.1.toInt ≤ 4) ∧ (∀ j : Nat, (j : Int) < z.1.toInt → z.2 j = (fun _ => (0 : Int32)) j)) (fun z => (4 - z.1.toInt).toNat) (0, fl) ?_ ?_
  ·
    rintro ⟨i_, g⟩ ⟨hi, hg⟩ ih2
    dsimp only at *
    refine z_run X be_X11_leads_2_4 ke_X11_leads_2_4 (lv' := [(3, .int i_), (0, .ref mo), (1, .int uq), (2, .int mq)]) (st' := [.int 4, .int i_]) rfl ?_
    refine zc_ge X de_X11_leads_4 (tgt := 20) (by decide) (a := i_.toInt) (b := 4) rfl (show (4 : Int32).toInt = 4 from by decide) (fun c4_1 => ?_) (fun c4_1 => ?_)
    ·
      refine z_run X be_X11_leads_20_22 ke_X11_leads_20_22 (lv' := [(3, .int 0), (0, .ref mo), (1, .int uq), (2, .int mq)]) (st' := []) rfl ?_
      refine zloop (σ := Int32 × (Nat → Int32)) (fun z => [(3, .int z.1), (0, .ref mo), (1, .int uq), (2, .int mq)]) (fun z => []) (fun z => [(mo, ob 11 [.int th, g_rows, g_row, .int hc, .ref r_planeOf, .ref r_holeX, .ref r_holeY, .ref r_room, .ref r_ounces, .ref r_deepOf, .int sc, .ref r_factor, .ref r_otherOf, .ref r_isApart, g_apartX, g_apartY, .int cc, .ref r_weight, .ref r_tape, .int n, .int p, .int lim, .int fi, g_crossOf, g_trueX, g_trueY, g_thoughtX, g_thoughtY, .int g_poundHole, .int g_poundOunces, .ref r_lead, g_trials, g_trialSpeed, g_isWhole, g_trialX, g_trialY, g_trialGive, g_trialLead, g_baseX, g_baseY, g_timesPull, g_trialBaseX, g_trialBaseY, g_trialTimes, g_pulls, g_pullMany, g_sizes, g_merged, g_nextHole, g_nextOunces, g_leftBehind, g_manUp, g_manLow, g_asked, g_lowOf, g_highOf, g_tried, g_found, g_askedMany, g_mostHoles, g_isFound, g_foundRest, g_foundOunces, g_question, g_questionSpeed, g_ounceRest, g_parts, g_filled, g_cogAt, g_cogBest, g_isOrdered, g_orderSize, g_isKept, g_kept, g_keptAt]), (r_lead, aI G 4 z.2), (r_planeOf, aI G 16 fp), (r_holeX, aI G 16 fx), (r_holeY, aI G 16 fy), (r_ounces, aI G 16 fo)]) (fun z => (0 ≤ z.1.toInt ∧ z.1.toInt ≤ hci) ∧ (∀ j : Nat, j < 4 → z.2 j = ldq fp (its fo uq mq) fx fy z.1.toInt.toNat j)) (fun z => (hci - z.1.toInt).toNat) (0, g) ?_ ?_
      ·
        rintro ⟨i_, g⟩ ⟨hi, hg⟩ ih22
        dsimp only at *
        refine z_run X be_X11_leads_22_24 ke_X11_leads_22_24 (lv' := [(3, .int i_), (0, .ref mo), (1, .int uq), (2, .int mq)]) (st' := [.ref mo, .int i_]) rfl ?_
        refine z_get X fl_11_63 de_X11_leads_24 0 rfl (v := .int hc) rfl ?_
        refine zc_ge X de_X11_leads_27 (tgt := 107) (by decide) (a := i_.toInt) (b := hci) rfl hhc (fun c27_2 => ?_) (fun c27_2 => ?_)
        ·
          exact z_vret X rfl de_X11_leads_107 (Nat.le_of_ble_eq_true rfl) (Nat.le_of_ble_eq_true rfl) ⟨g, (by intro j hj; rw [hg j hj, show i_.toInt.toNat = hci.toNat by omega]), rfl, rfl⟩
        ·
          refine z_run X be_X11_leads_30_31 ke_X11_leads_30_31 (lv' := [(3, .int i_), (0, .ref mo), (1, .int uq), (2, .int mq)]) (st' := [.ref mo]) rfl ?_
          refine z_get X fl_11_82 de_X11_leads_31 0 rfl (v := .ref r_ounces) rfl ?_
          refine z_run X be_X11_leads_34_35 ke_X11_leads_34_35 (lv' := [(3, .int i_), (0, .ref mo), (1, .int uq), (2, .int mq)]) (st' := [.int i_, .ref r_ounces]) rfl ?_
          refine z_iald X de_X11_leads_35 5 rfl (vin rfl (by omega) (by omega)) (v := (fo i_.toNatClampNeg)) rfl ?_
          refine z_run X be_X11_leads_36_38 ke_X11_leads_36_38 (lv' := [(3, .int i_), (0, .ref mo), (1, .int uq), (2, .int mq)]) (st' := [.int uq, .int i_, .int (fo i_.toNatClampNeg)]) rfl ?_
          refine zc_ne X de_X11_leads_38 (tgt := 45) (by decide) (a := i_.toInt) (b := ui) rfl huq (fun c38_3 => ?_) (fun c38_3 => ?_)
          ·
            have hpq_ : 0 ≤ (fp i_.toNatClampNeg).toInt ∧ (fp i_.toNatClampNeg).toInt ≤ 1 := hpl i_.toNatClampNeg (show ((i_.toInt.toNat : Nat) : Int) < hci by omega)
            refine z_run X be_X11_leads_45_50 ke_X11_leads_45_50 (lv' := [(4, .int ((fo i_.toNatClampNeg) + 0)), (3, .int i_), (0, .ref mo), (1, .int uq), (2, .int mq)]) (st' := [.ref mo]) rfl ?_
            refine z_get X fl_11_166 de_X11_leads_50 0 rfl (v := .ref r_lead) rfl ?_
            refine z_run X be_X11_leads_53_55 ke_X11_leads_53_55 (lv' := [(4, .int ((fo i_.toNatClampNeg) + 0)), (3, .int i_), (0, .ref mo), (1, .int uq), (2, .int mq)]) (st' := [.ref mo, .int 2, .ref r_lead]) rfl ?_
            refine z_get X fl_11_66 de_X11_leads_55 0 rfl (v := .ref r_planeOf) rfl ?_
            refine z_run X be_X11_leads_58_59 ke_X11_leads_58_59 (lv' := [(4, .int ((fo i_.toNatClampNeg) + 0)), (3, .int i_), (0, .ref mo), (1, .int uq), (2, .int mq)]) (st' := [.int i_, .ref r_planeOf, .int 2, .ref r_lead]) rfl ?_
            refine z_iald X de_X11_leads_59 2 rfl (vin rfl (by omega) (by omega)) (v := (fp i_.toNatClampNeg)) rfl ?_
            refine z_run X be_X11_leads_60_62 ke_X11_leads_60_62 (lv' := [(4, .int ((fo i_.toNatClampNeg) + 0)), (3, .int i_), (0, .ref mo), (1, .int uq), (2, .int mq)]) (st' := [.int (2 * (fp i_.toNatClampNeg)), .ref r_lead, .int (2 * (fp i_.toNatClampNeg)), .ref r_lead]) rfl ?_
            refine z_iald X de_X11_leads_62 1 rfl (vin (tI_mul (show (2 : Int32).toInt = 2 from by decide) rfl (by omega)) (by omega) (by omega)) (v := (g (2 * (fp i_.toNatClampNeg)).toNatClampNeg)) rfl ?_
            refine z_run X be_X11_leads_63_66 ke_X11_leads_63_66 (lv' := [(4, .int ((fo i_.toNatClampNeg) + 0)), (3, .int i_), (0, .ref mo), (1, .int uq), (2, .int mq)]) (st' := [.ref mo, .int ((fo i_.toNatClampNeg) + 0), .int (g (2 * (fp i_.toNatClampNeg)).toNatClampNeg), .int (2 * (fp i_.toNatClampNeg)), .ref r_lead]) rfl ?_
            refine z_get X fl_11_69 de_X11_leads_66 0 rfl (v := .ref r_holeX) rfl ?_
            refine z_run X be_X11_leads_69_70 ke_X11_leads_69_70 (lv' := [(4, .int ((fo i_.toNatClampNeg) + 0)), (3, .int i_), (0, .ref mo), (1, .int uq), (2, .int mq)]) (st' := [.int i_, .ref r_holeX, .int ((fo i_.toNatClampNeg) + 0), .int (g (2 * (fp i_.toNatClampNeg)).toNatClampNeg), .int (2 * (fp i_.toNatClampNeg)), .ref r_lead]) rfl ?_
            refine z_iald X de_X11_leads_70 3 rfl (vin rfl (by omega) (by omega)) (v := (fx i_.toNatClampNeg)) rfl ?_
            refine z_run X be_X11_leads_71_73 ke_X11_leads_71_73 (lv' := [(4, .int ((fo i_.toNatClampNeg) + 0)), (3, .int i_), (0, .ref mo), (1, .int uq), (2, .int mq)]) (st' := [.int ((g (2 * (fp i_.toNatClampNeg)).toNatClampNeg) + (((fo i_.toNatClampNeg) + 0) * (fx i_.toNatClampNeg))), .int (2 * (fp i_.toNatClampNeg)), .ref r_lead]) rfl ?_
            refine z_iast X de_X11_leads_73 1 rfl (vin (tI_mul (show (2 : Int32).toInt = 2 from by decide) rfl (by omega)) (by omega) (by omega)) (ws' := [(mo, ob 11 [.int th, g_rows, g_row, .int hc, .ref r_planeOf, .ref r_holeX, .ref r_holeY, .ref r_room, .ref r_ounces, .ref r_deepOf, .int sc, .ref r_factor, .ref r_otherOf, .ref r_isApart, g_apartX, g_apartY, .int cc, .ref r_weight, .ref r_tape, .int n, .int p, .int lim, .int fi, g_crossOf, g_trueX, g_trueY, g_thoughtX, g_thoughtY, .int g_poundHole, .int g_poundOunces, .ref r_lead, g_trials, g_trialSpeed, g_isWhole, g_trialX, g_trialY, g_trialGive, g_trialLead, g_baseX, g_baseY, g_timesPull, g_trialBaseX, g_trialBaseY, g_trialTimes, g_pulls, g_pullMany, g_sizes, g_merged, g_nextHole, g_nextOunces, g_leftBehind, g_manUp, g_manLow, g_asked, g_lowOf, g_highOf, g_tried, g_found, g_askedMany, g_mostHoles, g_isFound, g_foundRest, g_foundOunces, g_question, g_questionSpeed, g_ounceRest, g_parts, g_filled, g_cogAt, g_cogBest, g_isOrdered, g_orderSize, g_isKept, g_kept, g_keptAt]), (r_lead, aI G 4 (upd g (2 * (fp i_.toNatClampNeg)).toNatClampNeg ((g (2 * (fp i_.toNatClampNeg)).toNatClampNeg) + (((fo i_.toNatClampNeg) + 0) * (fx i_.toNatClampNeg))))), (r_planeOf, aI G 16 fp), (r_holeX, aI G 16 fx), (r_holeY, aI G 16 fy), (r_ounces, aI G 16 fo)]) rfl ?_
            refine z_run X be_X11_leads_74_75 ke_X11_leads_74_75 (lv' := [(4, .int ((fo i_.toNatClampNeg) + 0)), (3, .int i_), (0, .ref mo), (1, .int uq), (2, .int mq)]) (st' := [.ref mo]) rfl ?_
            refine z_get X fl_11_166 de_X11_leads_75 0 rfl (v := .ref r_lead) rfl ?_
            refine z_run X be_X11_leads_78_80 ke_X11_leads_78_80 (lv' := [(4, .int ((fo i_.toNatClampNeg) + 0)), (3, .int i_), (0, .ref mo), (1, .int uq), (2, .int mq)]) (st' := [.ref mo, .int 2, .ref r_lead]) rfl ?_
            refine z_get X fl_11_66 de_X11_leads_80 0 rfl (v := .ref r_planeOf) rfl ?_
            refine z_run X be_X11_leads_83_84 ke_X11_leads_83_84 (lv' := [(4, .int ((fo i_.toNatClampNeg) + 0)), (3, .int i_), (0, .ref mo), (1, .int uq), (2, .int mq)]) (st' := [.int i_, .ref r_planeOf, .int 2, .ref r_lead]) rfl ?_
            refine z_iald X de_X11_leads_84 2 rfl (vin rfl (by omega) (by omega)) (v := (fp i_.toNatClampNeg)) rfl ?_
            refine z_run X be_X11_leads_85_89 ke_X11_leads_85_89 (lv' := [(4, .int ((fo i_.toNatClampNeg) + 0)), (3, .int i_), (0, .ref mo), (1, .int uq), (2, .int mq)]) (st' := [.int ((2 * (fp i_.toNatClampNeg)) + 1), .ref r_lead, .int ((2 * (fp i_.toNatClampNeg)) + 1), .ref r_lead]) rfl ?_
            refine z_iald X de_X11_leads_89 1 rfl (vin (tI_add (tI_mul (show (2 : Int32).toInt = 2 from by decide) rfl (by omega)) (show (1 : Int32).toInt = 1 from by decide) (by omega)) (by omega) (by omega)) (v := ((upd g (2 * (fp i_.toNatClampNeg)).toNatClampNeg ((g (2 * (fp i_.toNatClampNeg)).toNatClampNeg) + (((fo i_.toNatClampNeg) + 0) * (fx i_.toNatClampNeg)))) ((2 * (fp i_.toNatClampNeg)) + 1).toNatClampNeg)) rfl ?_
            refine z_run X be_X11_leads_90_93 ke_X11_leads_90_93 (lv' := [(4, .int ((fo i_.toNatClampNeg) + 0)), (3, .int i_), (0, .ref mo), (1, .int uq), (2, .int mq)]) (st' := [.ref mo, .int ((fo i_.toNatClampNeg) + 0), .int ((upd g (2 * (fp i_.toNatClampNeg)).toNatClampNeg ((g (2 * (fp i_.toNatClampNeg)).toNatClampNeg) + (((fo i_.toNatClampNeg) + 0) * (fx i_.toNatClampNeg)))) ((2 * (fp i_.toNatClampNeg)) + 1).toNatClampNeg), .int ((2 * (fp i_.toNatClampNeg)) + 1), .ref r_lead]) rfl ?_
            refine z_get X fl_11_76 de_X11_leads_93 0 rfl (v := .ref r_holeY) rfl ?_
            refine z_run X be_X11_leads_96_97 ke_X11_leads_96_97 (lv' := [(4, .int ((fo i_.toNatClampNeg) + 0)), (3, .int i_), (0, .ref mo), (1, .int uq), (2, .int mq)]) (st' := [.int i_, .ref r_holeY, .int ((fo i_.toNatClampNeg) + 0), .int ((upd g (2 * (fp i_.toNatClampNeg)).toNatClampNeg ((g (2 * (fp i_.toNatClampNeg)).toNatClampNeg) + (((fo i_.toNatClampNeg) + 0) * (fx i_.toNatClampNeg)))) ((2 * (fp i_.toNatClampNeg)) + 1).toNatClampNeg), .int ((2 * (fp i_.toNatClampNeg)) + 1), .ref r_lead]) rfl ?_
            refine z_iald X de_X11_leads_97 4 rfl (vin rfl (by omega) (by omega)) (v := (fy i_.toNatClampNeg)) rfl ?_
            refine z_run X be_X11_leads_98_100 ke_X11_leads_98_100 (lv' := [(4, .int ((fo i_.toNatClampNeg) + 0)), (3, .int i_), (0, .ref mo), (1, .int uq), (2, .int mq)]) (st' := [.int (((upd g (2 * (fp i_.toNatClampNeg)).toNatClampNeg ((g (2 * (fp i_.toNatClampNeg)).toNatClampNeg) + (((fo i_.toNatClampNeg) + 0) * (fx i_.toNatClampNeg)))) ((2 * (fp i_.toNatClampNeg)) + 1).toNatClampNeg) + (((fo i_.toNatClampNeg) + 0) * (fy i_.toNatClampNeg))), .int ((2 * (fp i_.toNatClampNeg)) + 1), .ref r_lead]) rfl ?_
            refine z_iast X de_X11_leads_100 1 rfl (vin (tI_add (tI_mul (show (2 : Int32).toInt = 2 from by decide) rfl (by omega)) (show (1 : Int32).toInt = 1 from by decide) (by omega)) (by omega) (by omega)) (ws' := [(mo, ob 11 [.int th, g_rows, g_row, .int hc, .ref r_planeOf, .ref r_holeX, .ref r_holeY, .ref r_room, .ref r_ounces, .ref r_deepOf, .int sc, .ref r_factor, .ref r_otherOf, .ref r_isApart, g_apartX, g_apartY, .int cc, .ref r_weight, .ref r_tape, .int n, .int p, .int lim, .int fi, g_crossOf, g_trueX, g_trueY, g_thoughtX, g_thoughtY, .int g_poundHole, .int g_poundOunces, .ref r_lead, g_trials, g_trialSpeed, g_isWhole, g_trialX, g_trialY, g_trialGive, g_trialLead, g_baseX, g_baseY, g_timesPull, g_trialBaseX, g_trialBaseY, g_trialTimes, g_pulls, g_pullMany, g_sizes, g_merged, g_nextHole, g_nextOunces, g_leftBehind, g_manUp, g_manLow, g_asked, g_lowOf, g_highOf, g_tried, g_found, g_askedMany, g_mostHoles, g_isFound, g_foundRest, g_foundOunces, g_question, g_questionSpeed, g_ounceRest, g_parts, g_filled, g_cogAt, g_cogBest, g_isOrdered, g_orderSize, g_isKept, g_kept, g_keptAt]), (r_lead, aI G 4 (upd (upd g (2 * (fp i_.toNatClampNeg)).toNatClampNeg ((g (2 * (fp i_.toNatClampNeg)).toNatClampNeg) + (((fo i_.toNatClampNeg) + 0) * (fx i_.toNatClampNeg)))) ((2 * (fp i_.toNatClampNeg)) + 1).toNatClampNeg (((upd g (2 * (fp i_.toNatClampNeg)).toNatClampNeg ((g (2 * (fp i_.toNatClampNeg)).toNatClampNeg) + (((fo i_.toNatClampNeg) + 0) * (fx i_.toNatClampNeg)))) ((2 * (fp i_.toNatClampNeg)) + 1).toNatClampNeg) + (((fo i_.toNatClampNeg) + 0) * (fy i_.toNatClampNeg))))), (r_planeOf, aI G 16 fp), (r_holeX, aI G 16 fx), (r_holeY, aI G 16 fy), (r_ounces, aI G 16 fo)]) rfl ?_
            refine z_run X be_X11_leads_101_104 ke_X11_leads_101_104 (lv' := [(3, .int (i_ + 1)), (4, .int ((fo i_.toNatClampNeg) + 0)), (0, .ref mo), (1, .int uq), (2, .int mq)]) (st' := []) rfl ?_
            refine z_goto X de_X11_leads_104 (tgt := 22) (by decide) ?_
            refine Z.sub (lv' := [(3, .int (i_ + 1)), (0, .ref mo), (1, .int uq), (2, .int mq)]) [0, 2, 3, 4] rfl [0, 1, 2, 3, 4, 5] (ws' := [(mo, ob 11 [.int th, g_rows, g_row, .int hc, .ref r_planeOf, .ref r_holeX, .ref r_holeY, .ref r_room, .ref r_ounces, .ref r_deepOf, .int sc, .ref r_factor, .ref r_otherOf, .ref r_isApart, g_apartX, g_apartY, .int cc, .ref r_weight, .ref r_tape, .int n, .int p, .int lim, .int fi, g_crossOf, g_trueX, g_trueY, g_thoughtX, g_thoughtY, .int g_poundHole, .int g_poundOunces, .ref r_lead, g_trials, g_trialSpeed, g_isWhole, g_trialX, g_trialY, g_trialGive, g_trialLead, g_baseX, g_baseY, g_timesPull, g_trialBaseX, g_trialBaseY, g_trialTimes, g_pulls, g_pullMany, g_sizes, g_merged, g_nextHole, g_nextOunces, g_leftBehind, g_manUp, g_manLow, g_asked, g_lowOf, g_highOf, g_tried, g_found, g_askedMany, g_mostHoles, g_isFound, g_foundRest, g_foundOunces, g_question, g_questionSpeed, g_ounceRest, g_parts, g_filled, g_cogAt, g_cogBest, g_isOrdered, g_orderSize, g_isKept, g_kept, g_keptAt]), (r_lead, aI G 4 (upd (upd g (2 * (fp i_.toNatClampNeg)).toNatClampNeg ((g (2 * (fp i_.toNatClampNeg)).toNatClampNeg) + (((fo i_.toNatClampNeg) + 0) * (fx i_.toNatClampNeg)))) ((2 * (fp i_.toNatClampNeg)) + 1).toNatClampNeg (((upd g (2 * (fp i_.toNatClampNeg)).toNatClampNeg ((g (2 * (fp i_.toNatClampNeg)).toNatClampNeg) + (((fo i_.toNatClampNeg) + 0) * (fx i_.toNatClampNeg)))) ((2 * (fp i_.toNatClampNeg)) + 1).toNatClampNeg) + (((fo i_.toNatClampNeg) + 0) * (fy i_.toNatClampNeg))))), (r_planeOf, aI G 16 fp), (r_holeX, aI G 16 fx), (r_holeY, aI G 16 fy), (r_ounces, aI G 16 fo)]) rfl (by decide) ?_
            exact ih22 ((i_ + 1), (upd (upd g (2 * (fp i_.toNatClampNeg)).toNatClampNeg ((g (2 * (fp i_.toNatClampNeg)).toNatClampNeg) + (((fo i_.toNatClampNeg) + 0) * (fx i_.toNatClampNeg)))) ((2 * (fp i_.toNatClampNeg)) + 1).toNatClampNeg (((upd g (2 * (fp i_.toNatClampNeg)).toNatClampNeg ((g (2 * (fp i_.toNatClampNeg)).toNatClampNeg) + (((fo i_.toNatClampNeg) + 0) * (fx i_.toNatClampNeg)))) ((2 * (fp i_.toNatClampNeg)) + 1).toNatClampNeg) + (((fo i_.toNatClampNeg) + 0) * (fy i_.toNatClampNeg))))) ⟨(by dsimp only; have e : (i_ + 1).toInt = i_.toInt + 1 := tI_add rfl (show (1 : Int32).toInt = 1 from by decide) (by omega); omega), (by dsimp only; have e : (i_ + 1).toInt = i_.toInt + 1 := tI_add rfl (show (1 : Int32).toInt = 1 from by decide) (by omega); rw [e, show (i_.toInt + 1).toNat = i_.toInt.toNat + 1 by omega]; exact ldq_step rfl (its_no (fo := fo) (u := uq) (m := mq) (j := i_.toInt.toNat) (by omega)).symm rfl rfl (hpl i_.toInt.toNat (by omega)) hg)⟩ (by dsimp only; have e : (i_ + 1).toInt = i_.toInt + 1 := tI_add rfl (show (1 : Int32).toInt = 1 from by decide) (by omega); omega)
          ·
            have hpq_ : 0 ≤ (fp i_.toNatClampNeg).toInt ∧ (fp i_.toNatClampNeg).toInt ≤ 1 := hpl i_.toNatClampNeg (show ((i_.toInt.toNat : Nat) : Int) < hci by omega)
            refine z_run X be_X11_leads_41_42 ke_X11_leads_41_42 (lv' := [(3, .int i_), (0, .ref mo), (1, .int uq), (2, .int mq)]) (st' := [.int mq, .int (fo i_.toNatClampNeg)]) rfl ?_
            refine z_goto X de_X11_leads_42 (tgt := 46) (by decide) ?_
            refine z_run X be_X11_leads_46_50 ke_X11_leads_46_50 (lv' := [(4, .int ((fo i_.toNatClampNeg) + mq)), (3, .int i_), (0, .ref mo), (1, .int uq), (2, .int mq)]) (st' := [.ref mo]) rfl ?_
            refine z_get X fl_11_166 de_X11_leads_50 0 rfl (v := .ref r_lead) rfl ?_
            refine z_run X be_X11_leads_53_55 ke_X11_leads_53_55 (lv' := [(4, .int ((fo i_.toNatClampNeg) + mq)), (3, .int i_), (0, .ref mo), (1, .int uq), (2, .int mq)]) (st' := [.ref mo, .int 2, .ref r_lead]) rfl ?_
            refine z_get X fl_11_66 de_X11_leads_55 0 rfl (v := .ref r_planeOf) rfl ?_
            refine z_run X be_X11_leads_58_59 ke_X11_leads_58_59 (lv' := [(4, .int ((fo i_.toNatClampNeg) + mq)), (3, .int i_), (0, .ref mo), (1, .int uq), (2, .int mq)]) (st' := [.int i_, .ref r_planeOf, .int 2, .ref r_lead]) rfl ?_
            refine z_iald X de_X11_leads_59 2 rfl (vin rfl (by omega) (by omega)) (v := (fp i_.toNatClampNeg)) rfl ?_
            refine z_run X be_X11_leads_60_62 ke_X11_leads_60_62 (lv' := [(4, .int ((fo i_.toNatClampNeg) + mq)), (3, .int i_), (0, .ref mo), (1, .int uq), (2, .int mq)]) (st' := [.int (2 * (fp i_.toNatClampNeg)), .ref r_lead, .int (2 * (fp i_.toNatClampNeg)), .ref r_lead]) rfl ?_
            refine z_iald X de_X11_leads_62 1 rfl (vin (tI_mul (show (2 : Int32).toInt = 2 from by decide) rfl (by omega)) (by omega) (by omega)) (v := (g (2 * (fp i_.toNatClampNeg)).toNatClampNeg)) rfl ?_
            refine z_run X be_X11_leads_63_66 ke_X11_leads_63_66 (lv' := [(4, .int ((fo i_.toNatClampNeg) + mq)), (3, .int i_), (0, .ref mo), (1, .int uq), (2, .int mq)]) (st' := [.ref mo, .int ((fo i_.toNatClampNeg) + mq), .int (g (2 * (fp i_.toNatClampNeg)).toNatClampNeg), .int (2 * (fp i_.toNatClampNeg)), .ref r_lead]) rfl ?_
            refine z_get X fl_11_69 de_X11_leads_66 0 rfl (v := .ref r_holeX) rfl ?_
            refine z_run X be_X11_leads_69_70 ke_X11_leads_69_70 (lv' := [(4, .int ((fo i_.toNatClampNeg) + mq)), (3, .int i_), (0, .ref mo), (1, .int uq), (2, .int mq)]) (st' := [.int i_, .ref r_holeX, .int ((fo i_.toNatClampNeg) + mq), .int (g (2 * (fp i_.toNatClampNeg)).toNatClampNeg), .int (2 * (fp i_.toNatClampNeg)), .ref r_lead]) rfl ?_
            refine z_iald X de_X11_leads_70 3 rfl (vin rfl (by omega) (by omega)) (v := (fx i_.toNatClampNeg)) rfl ?_
            refine z_run X be_X11_leads_71_73 ke_X11_leads_71_73 (lv' := [(4, .int ((fo i_.toNatClampNeg) + mq)), (3, .int i_), (0, .ref mo), (1, .int uq), (2, .int mq)]) (st' := [.int ((g (2 * (fp i_.toNatClampNeg)).toNatClampNeg) + (((fo i_.toNatClampNeg) + mq) * (fx i_.toNatClampNeg))), .int (2 * (fp i_.toNatClampNeg)), .ref r_lead]) rfl ?_
            refine z_iast X de_X11_leads_73 1 rfl (vin (tI_mul (show (2 : Int32).toInt = 2 from by decide) rfl (by omega)) (by omega) (by omega)) (ws' := [(mo, ob 11 [.int th, g_rows, g_row, .int hc, .ref r_planeOf, .ref r_holeX, .ref r_holeY, .ref r_room, .ref r_ounces, .ref r_deepOf, .int sc, .ref r_factor, .ref r_otherOf, .ref r_isApart, g_apartX, g_apartY, .int cc, .ref r_weight, .ref r_tape, .int n, .int p, .int lim, .int fi, g_crossOf, g_trueX, g_trueY, g_thoughtX, g_thoughtY, .int g_poundHole, .int g_poundOunces, .ref r_lead, g_trials, g_trialSpeed, g_isWhole, g_trialX, g_trialY, g_trialGive, g_trialLead, g_baseX, g_baseY, g_timesPull, g_trialBaseX, g_trialBaseY, g_trialTimes, g_pulls, g_pullMany, g_sizes, g_merged, g_nextHole, g_nextOunces, g_leftBehind, g_manUp, g_manLow, g_asked, g_lowOf, g_highOf, g_tried, g_found, g_askedMany, g_mostHoles, g_isFound, g_foundRest, g_foundOunces, g_question, g_questionSpeed, g_ounceRest, g_parts, g_filled, g_cogAt, g_cogBest, g_isOrdered, g_orderSize, g_isKept, g_kept, g_keptAt]), (r_lead, aI G 4 (upd g (2 * (fp i_.toNatClampNeg)).toNatClampNeg ((g (2 * (fp i_.toNatClampNeg)).toNatClampNeg) + (((fo i_.toNatClampNeg) + mq) * (fx i_.toNatClampNeg))))), (r_planeOf, aI G 16 fp), (r_holeX, aI G 16 fx), (r_holeY, aI G 16 fy), (r_ounces, aI G 16 fo)]) rfl ?_
            refine z_run X be_X11_leads_74_75 ke_X11_leads_74_75 (lv' := [(4, .int ((fo i_.toNatClampNeg) + mq)), (3, .int i_), (0, .ref mo), (1, .int uq), (2, .int mq)]) (st' := [.ref mo]) rfl ?_
            refine z_get X fl_11_166 de_X11_leads_75 0 rfl (v := .ref r_lead) rfl ?_
            refine z_run X be_X11_leads_78_80 ke_X11_leads_78_80 (lv' := [(4, .int ((fo i_.toNatClampNeg) + mq)), (3, .int i_), (0, .ref mo), (1, .int uq), (2, .int mq)]) (st' := [.ref mo, .int 2, .ref r_lead]) rfl ?_
            refine z_get X fl_11_66 de_X11_leads_80 0 rfl (v := .ref r_planeOf) rfl ?_
            refine z_run X be_X11_leads_83_84 ke_X11_leads_83_84 (lv' := [(4, .int ((fo i_.toNatClampNeg) + mq)), (3, .int i_), (0, .ref mo), (1, .int uq), (2, .int mq)]) (st' := [.int i_, .ref r_planeOf, .int 2, .ref r_lead]) rfl ?_
            refine z_iald X de_X11_leads_84 2 rfl (vin rfl (by omega) (by omega)) (v := (fp i_.toNatClampNeg)) rfl ?_
            refine z_run X be_X11_leads_85_89 ke_X11_leads_85_89 (lv' := [(4, .int ((fo i_.toNatClampNeg) + mq)), (3, .int i_), (0, .ref mo), (1, .int uq), (2, .int mq)]) (st' := [.int ((2 * (fp i_.toNatClampNeg)) + 1), .ref r_lead, .int ((2 * (fp i_.toNatClampNeg)) + 1), .ref r_lead]) rfl ?_
            refine z_iald X de_X11_leads_89 1 rfl (vin (tI_add (tI_mul (show (2 : Int32).toInt = 2 from by decide) rfl (by omega)) (show (1 : Int32).toInt = 1 from by decide) (by omega)) (by omega) (by omega)) (v := ((upd g (2 * (fp i_.toNatClampNeg)).toNatClampNeg ((g (2 * (fp i_.toNatClampNeg)).toNatClampNeg) + (((fo i_.toNatClampNeg) + mq) * (fx i_.toNatClampNeg)))) ((2 * (fp i_.toNatClampNeg)) + 1).toNatClampNeg)) rfl ?_
            refine z_run X be_X11_leads_90_93 ke_X11_leads_90_93 (lv' := [(4, .int ((fo i_.toNatClampNeg) + mq)), (3, .int i_), (0, .ref mo), (1, .int uq), (2, .int mq)]) (st' := [.ref mo, .int ((fo i_.toNatClampNeg) + mq), .int ((upd g (2 * (fp i_.toNatClampNeg)).toNatClampNeg ((g (2 * (fp i_.toNatClampNeg)).toNatClampNeg) + (((fo i_.toNatClampNeg) + mq) * (fx i_.toNatClampNeg)))) ((2 * (fp i_.toNatClampNeg)) + 1).toNatClampNeg), .int ((2 * (fp i_.toNatClampNeg)) + 1), .ref r_lead]) rfl ?_
            refine z_get X fl_11_76 de_X11_leads_93 0 rfl (v := .ref r_holeY) rfl ?_
            refine z_run X be_X11_leads_96_97 ke_X11_leads_96_97 (lv' := [(4, .int ((fo i_.toNatClampNeg) + mq)), (3, .int i_), (0, .ref mo), (1, .int uq), (2, .int mq)]) (st' := [.int i_, .ref r_holeY, .int ((fo i_.toNatClampNeg) + mq), .int ((upd g (2 * (fp i_.toNatClampNeg)).toNatClampNeg ((g (2 * (fp i_.toNatClampNeg)).toNatClampNeg) + (((fo i_.toNatClampNeg) + mq) * (fx i_.toNatClampNeg)))) ((2 * (fp i_.toNatClampNeg)) + 1).toNatClampNeg), .int ((2 * (fp i_.toNatClampNeg)) + 1), .ref r_lead]) rfl ?_
            refine z_iald X de_X11_leads_97 4 rfl (vin rfl (by omega) (by omega)) (v := (fy i_.toNatClampNeg)) rfl ?_
            refine z_run X be_X11_leads_98_100 ke_X11_leads_98_100 (lv' := [(4, .int ((fo i_.toNatClampNeg) + mq)), (3, .int i_), (0, .ref mo), (1, .int uq), (2, .int mq)]) (st' := [.int (((upd g (2 * (fp i_.toNatClampNeg)).toNatClampNeg ((g (2 * (fp i_.toNatClampNeg)).toNatClampNeg) + (((fo i_.toNatClampNeg) + mq) * (fx i_.toNatClampNeg)))) ((2 * (fp i_.toNatClampNeg)) + 1).toNatClampNeg) + (((fo i_.toNatClampNeg) + mq) * (fy i_.toNatClampNeg))), .int ((2 * (fp i_.toNatClampNeg)) + 1), .ref r_lead]) rfl ?_
            refine z_iast X de_X11_leads_100 1 rfl (vin (tI_add (tI_mul (show (2 : Int32).toInt = 2 from by decide) rfl (by omega)) (show (1 : Int32).toInt = 1 from by decide) (by omega)) (by omega) (by omega)) (ws' := [(mo, ob 11 [.int th, g_rows, g_row, .int hc, .ref r_planeOf, .ref r_holeX, .ref r_holeY, .ref r_room, .ref r_ounces, .ref r_deepOf, .int sc, .ref r_factor, .ref r_otherOf, .ref r_isApart, g_apartX, g_apartY, .int cc, .ref r_weight, .ref r_tape, .int n, .int p, .int lim, .int fi, g_crossOf, g_trueX, g_trueY, g_thoughtX, g_thoughtY, .int g_poundHole, .int g_poundOunces, .ref r_lead, g_trials, g_trialSpeed, g_isWhole, g_trialX, g_trialY, g_trialGive, g_trialLead, g_baseX, g_baseY, g_timesPull, g_trialBaseX, g_trialBaseY, g_trialTimes, g_pulls, g_pullMany, g_sizes, g_merged, g_nextHole, g_nextOunces, g_leftBehind, g_manUp, g_manLow, g_asked, g_lowOf, g_highOf, g_tried, g_found, g_askedMany, g_mostHoles, g_isFound, g_foundRest, g_foundOunces, g_question, g_questionSpeed, g_ounceRest, g_parts, g_filled, g_cogAt, g_cogBest, g_isOrdered, g_orderSize, g_isKept, g_kept, g_keptAt]), (r_lead, aI G 4 (upd (upd g (2 * (fp i_.toNatClampNeg)).toNatClampNeg ((g (2 * (fp i_.toNatClampNeg)).toNatClampNeg) + (((fo i_.toNatClampNeg) + mq) * (fx i_.toNatClampNeg)))) ((2 * (fp i_.toNatClampNeg)) + 1).toNatClampNeg (((upd g (2 * (fp i_.toNatClampNeg)).toNatClampNeg ((g (2 * (fp i_.toNatClampNeg)).toNatClampNeg) + (((fo i_.toNatClampNeg) + mq) * (fx i_.toNatClampNeg)))) ((2 * (fp i_.toNatClampNeg)) + 1).toNatClampNeg) + (((fo i_.toNatClampNeg) + mq) * (fy i_.toNatClampNeg))))), (r_planeOf, aI G 16 fp), (r_holeX, aI G 16 fx), (r_holeY, aI G 16 fy), (r_ounces, aI G 16 fo)]) rfl ?_
            refine z_run X be_X11_leads_101_104 ke_X11_leads_101_104 (lv' := [(3, .int (i_ + 1)), (4, .int ((fo i_.toNatClampNeg) + mq)), (0, .ref mo), (1, .int uq), (2, .int mq)]) (st' := []) rfl ?_
            refine z_goto X de_X11_leads_104 (tgt := 22) (by decide) ?_
            refine Z.sub (lv' := [(3, .int (i_ + 1)), (0, .ref mo), (1, .int uq), (2, .int mq)]) [0, 2, 3, 4] rfl [0, 1, 2, 3, 4, 5] (ws' := [(mo, ob 11 [.int th, g_rows, g_row, .int hc, .ref r_planeOf, .ref r_holeX, .ref r_holeY, .ref r_room, .ref r_ounces, .ref r_deepOf, .int sc, .ref r_factor, .ref r_otherOf, .ref r_isApart, g_apartX, g_apartY, .int cc, .ref r_weight, .ref r_tape, .int n, .int p, .int lim, .int fi, g_crossOf, g_trueX, g_trueY, g_thoughtX, g_thoughtY, .int g_poundHole, .int g_poundOunces, .ref r_lead, g_trials, g_trialSpeed, g_isWhole, g_trialX, g_trialY, g_trialGive, g_trialLead, g_baseX, g_baseY, g_timesPull, g_trialBaseX, g_trialBaseY, g_trialTimes, g_pulls, g_pullMany, g_sizes, g_merged, g_nextHole, g_nextOunces, g_leftBehind, g_manUp, g_manLow, g_asked, g_lowOf, g_highOf, g_tried, g_found, g_askedMany, g_mostHoles, g_isFound, g_foundRest, g_foundOunces, g_question, g_questionSpeed, g_ounceRest, g_parts, g_filled, g_cogAt, g_cogBest, g_isOrdered, g_orderSize, g_isKept, g_kept, g_keptAt]), (r_lead, aI G 4 (upd (upd g (2 * (fp i_.toNatClampNeg)).toNatClampNeg ((g (2 * (fp i_.toNatClampNeg)).toNatClampNeg) + (((fo i_.toNatClampNeg) + mq) * (fx i_.toNatClampNeg)))) ((2 * (fp i_.toNatClampNeg)) + 1).toNatClampNeg (((upd g (2 * (fp i_.toNatClampNeg)).toNatClampNeg ((g (2 * (fp i_.toNatClampNeg)).toNatClampNeg) + (((fo i_.toNatClampNeg) + mq) * (fx i_.toNatClampNeg)))) ((2 * (fp i_.toNatClampNeg)) + 1).toNatClampNeg) + (((fo i_.toNatClampNeg) + mq) * (fy i_.toNatClampNeg))))), (r_planeOf, aI G 16 fp), (r_holeX, aI G 16 fx), (r_holeY, aI G 16 fy), (r_ounces, aI G 16 fo)]) rfl (by decide) ?_
            exact ih22 ((i_ + 1), (upd (upd g (2 * (fp i_.toNatClampNeg)).toNatClampNeg ((g (2 * (fp i_.toNatClampNeg)).toNatClampNeg) + (((fo i_.toNatClampNeg) + mq) * (fx i_.toNatClampNeg)))) ((2 * (fp i_.toNatClampNeg)) + 1).toNatClampNeg (((upd g (2 * (fp i_.toNatClampNeg)).toNatClampNeg ((g (2 * (fp i_.toNatClampNeg)).toNatClampNeg) + (((fo i_.toNatClampNeg) + mq) * (fx i_.toNatClampNeg)))) ((2 * (fp i_.toNatClampNeg)) + 1).toNatClampNeg) + (((fo i_.toNatClampNeg) + mq) * (fy i_.toNatClampNeg))))) ⟨(by dsimp only; have e : (i_ + 1).toInt = i_.toInt + 1 := tI_add rfl (show (1 : Int32).toInt = 1 from by decide) (by omega); omega), (by dsimp only; have e : (i_ + 1).toInt = i_.toInt + 1 := tI_add rfl (show (1 : Int32).toInt = 1 from by decide) (by omega); rw [e, show (i_.toInt + 1).toNat = i_.toInt.toNat + 1 by omega]; exact ldq_step rfl (its_yes (fo := fo) (u := uq) (m := mq) (j := i_.toInt.toNat) (by omega)).symm rfl rfl (hpl i_.toInt.toNat (by omega)) hg)⟩ (by dsimp only; have e : (i_ + 1).toInt = i_.toInt + 1 := tI_add rfl (show (1 : Int32).toInt = 1 from by decide) (by omega); omega)
      · exact ⟨(by dsimp only; have e0 : (0 : Int32).toInt = 0 := (by decide); omega), (by dsimp only; have e0 : (0 : Int32).toInt = 0 := (by decide); rw [e0]; intro j hj; rw [hg j (by omega)]; exact ldq_zero.symm)⟩
    ·
      refine z_run X be_X11_leads_7_8 ke_X11_leads_7_8 (lv' := [(3, .int i_), (0, .ref mo), (1, .int uq), (2, .int mq)]) (st' := [.ref mo]) rfl ?_
      refine z_get X fl_11_166 de_X11_leads_8 0 rfl (v := .ref r_lead) rfl ?_
      refine z_run X be_X11_leads_11_13 ke_X11_leads_11_13 (lv' := [(3, .int i_), (0, .ref mo), (1, .int uq), (2, .int mq)]) (st' := [.int 0, .int i_, .ref r_lead]) rfl ?_
      refine z_iast X de_X11_leads_13 1 rfl (vin rfl (by omega) (by omega)) (ws' := [(mo, ob 11 [.int th, g_rows, g_row, .int hc, .ref r_planeOf, .ref r_holeX, .ref r_holeY, .ref r_room, .ref r_ounces, .ref r_deepOf, .int sc, .ref r_factor, .ref r_otherOf, .ref r_isApart, g_apartX, g_apartY, .int cc, .ref r_weight, .ref r_tape, .int n, .int p, .int lim, .int fi, g_crossOf, g_trueX, g_trueY, g_thoughtX, g_thoughtY, .int g_poundHole, .int g_poundOunces, .ref r_lead, g_trials, g_trialSpeed, g_isWhole, g_trialX, g_trialY, g_trialGive, g_trialLead, g_baseX, g_baseY, g_timesPull, g_trialBaseX, g_trialBaseY, g_trialTimes, g_pulls, g_pullMany, g_sizes, g_merged, g_nextHole, g_nextOunces, g_leftBehind, g_manUp, g_manLow, g_asked, g_lowOf, g_highOf, g_tried, g_found, g_askedMany, g_mostHoles, g_isFound, g_foundRest, g_foundOunces, g_question, g_questionSpeed, g_ounceRest, g_parts, g_filled, g_cogAt, g_cogBest, g_isOrdered, g_orderSize, g_isKept, g_kept, g_keptAt]), (r_lead, aI G 4 (upd g i_.toNatClampNeg 0)), (r_planeOf, aI G 16 fp), (r_holeX, aI G 16 fx), (r_holeY, aI G 16 fy), (r_ounces, aI G 16 fo)]) rfl ?_
      refine z_run X be_X11_leads_14_17 ke_X11_leads_14_17 (lv' := [(3, .int (i_ + 1)), (0, .ref mo), (1, .int uq), (2, .int mq)]) (st' := []) rfl ?_
      refine z_goto X de_X11_leads_17 (tgt := 2) (by decide) ?_
      exact ih2 ((i_ + 1), (upd g i_.toNatClampNeg 0)) ⟨(by dsimp only; have e : (i_ + 1).toInt = i_.toInt + 1 := tI_add rfl (show (1 : Int32).toInt = 1 from by decide) (by omega); omega), (by dsimp only; have e : (i_ + 1).toInt = i_.toInt + 1 := tI_add rfl (show (1 : Int32).toInt = 1 from by decide) (by omega); rw [e]; exact st_step hi.1 hg rfl)⟩ (by dsimp only; have e : (i_ + 1).toInt = i_.toInt + 1 := tI_add rfl (show (1 : Int32).toInt = 1 from by decide) (by omega); omega)
  · exact ⟨(by dsimp only; have e0 : (0 : Int32).toInt = 0 := (by decide); omega), (by dsimp only; have e0 : (0 : Int32).toInt = 0 := (by decide); intro j hj; omega)⟩

theorem de_X11_leadsNow_2 : decode cX11_leadsNow 2 = .ok (.getfield 158, 3) := by decide +kernel
theorem de_X11_leadsNow_6 : decode cX11_leadsNow 6 = .ok (.getfield 161, 3) := by decide +kernel
theorem de_X11_leadsNow_9 : decode cX11_leadsNow 9 = .ok (.invokevirtual 169, 3) := by decide +kernel
theorem de_X11_leadsNow_12 : decode cX11_leadsNow 12 = .ok (.return_, 1) := by decide +kernel
abbrev be_X11_leadsNow_0_2 : ZB := [(.aload_n 0, .null), (.aload_n 0, .null)]
theorem ke_X11_leadsNow_0_2 : zchk cX11_leadsNow be_X11_leadsNow_0_2 0 = true ∧ zpc be_X11_leadsNow_0_2 0 = 2 := ⟨by decide +kernel, rfl⟩
abbrev be_X11_leadsNow_5_6 : ZB := [(.aload_n 0, .null)]
theorem ke_X11_leadsNow_5_6 : zchk cX11_leadsNow be_X11_leadsNow_5_6 5 = true ∧ zpc be_X11_leadsNow_5_6 5 = 6 := ⟨by decide +kernel, rfl⟩
set_option maxHeartbeats 4000000 in
set_option maxRecDepth 100000 in
theorem ce_X11_leadsNow (l : Launch) (G : KG) (mo : Nat) (th : Int32) (g_rows : Value) (g_row : Value) (hc : Int32) (r_planeOf : Nat) (r_holeX : Nat) (r_holeY : Nat) (r_room : Nat) (r_ounces : Nat) (r_deepOf : Nat) (sc : Int32) (r_factor : Nat) (r_otherOf : Nat) (r_isApart : Nat) (g_apartX : Value) (g_apartY : Value) (cc : Int32) (r_weight : Nat) (r_tape : Nat) (n : Int32) (p : Int32) (lim : Int32) (fi : Int32) (g_crossOf : Value) (g_trueX : Value) (g_trueY : Value) (g_thoughtX : Value) (g_thoughtY : Value) (g_poundHole : Int32) (g_poundOunces : Int32) (r_lead : Nat) (g_trials : Value) (g_trialSpeed : Value) (g_isWhole : Value) (g_trialX : Value) (g_trialY : Value) (g_trialGive : Value) (g_trialLead : Value) (g_baseX : Value) (g_baseY : Value) (g_timesPull : Value) (g_trialBaseX : Value) (g_trialBaseY : Value) (g_trialTimes : Value) (g_pulls : Value) (g_pullMany : Value) (g_sizes : Value) (g_merged : Value) (g_nextHole : Value) (g_nextOunces : Value) (g_leftBehind : Value) (g_manUp : Value) (g_manLow : Value) (g_asked : Value) (g_lowOf : Value) (g_highOf : Value) (g_tried : Value) (g_found : Value) (g_askedMany : Value) (g_mostHoles : Value) (g_isFound : Value) (g_foundRest : Value) (g_foundOunces : Value) (g_question : Value) (g_questionSpeed : Value) (g_ounceRest : Value) (g_parts : Value) (g_filled : Value) (g_cogAt : Value) (g_cogBest : Value) (g_isOrdered : Value) (g_orderSize : Value) (g_isKept : Value) (g_kept : Value) (g_keptAt : Value) (fp : Nat → Int32) (fx : Nat → Int32) (fy : Nat → Int32) (fo : Nat → Int32) (fl : Nat → Int32) (hci : Int) (hhc : hc.toInt = hci) (hc0 : 0 ≤ hci ∧ hci ≤ 16) (hpl : ∀ j : Nat, (j : Int) < hci → 0 ≤ (fp j).toInt ∧ (fp j).toInt ≤ 1) : Ct l G yX11_leadsNow cX11_leadsNow 1 none { frames := 1, cells := 0, slots := 0, locals := 24 } [.ref mo] [(mo, ob 11 [.int th, g_rows, g_row, .int hc, .ref r_planeOf, .ref r_holeX, .ref r_holeY, .ref r_room, .ref r_ounces, .ref r_deepOf, .int sc, .ref r_factor, .ref r_otherOf, .ref r_isApart, g_apartX, g_apartY, .int cc, .ref r_weight, .ref r_tape, .int n, .int p, .int lim, .int fi, g_crossOf, g_trueX, g_trueY, g_thoughtX, g_thoughtY, .int g_poundHole, .int g_poundOunces, .ref r_lead, g_trials, g_trialSpeed, g_isWhole, g_trialX, g_trialY, g_trialGive, g_trialLead, g_baseX, g_baseY, g_timesPull, g_trialBaseX, g_trialBaseY, g_trialTimes, g_pulls, g_pullMany, g_sizes, g_merged, g_nextHole, g_nextOunces, g_leftBehind, g_manUp, g_manLow, g_asked, g_lowOf, g_highOf, g_tried, g_found, g_askedMany, g_mostHoles, g_isFound, g_foundRest, g_foundOunces, g_question, g_questionSpeed, g_ounceRest, g_parts, g_filled, g_cogAt, g_cogBest, g_isOrdered, g_orderSize, g_isKept, g_kept, g_keptAt]), (r_lead, aI G 4 fl), (r_planeOf, aI G 16 fp), (r_holeX, aI G 16 fx), (r_holeY, aI G 16 fy), (r_ounces, aI G 16 fo)] (fun r w1 => ∃ (fl2 : Nat → Int32), (∀ j : Nat, j < 4 → fl2 j = ldq fp (its fo g_poundHole g_poundOunces) fx fy hci.toNat j) ∧ r = none ∧ w1 = [(mo, ob 11 [.int th, g_rows, g_row, .int hc, .ref r_planeOf, .ref r_holeX, .ref r_holeY, .ref r_room, .ref r_ounces, .ref r_deepOf, .int sc, .ref r_factor, .ref r_otherOf, .ref r_isApart, g_apartX, g_apartY, .int cc, .ref r_weight, .ref r_tape, .int n, .int p, .int lim, .int fi, g_crossOf, g_trueX, g_trueY, g_thoughtX, g_thoughtY, .int g_poundHole, .int g_poundOunces, .ref r_lead, g_trials, g_trialSpeed, g_isWhole, g_trialX, g_trialY, g_trialGive, g_trialLead, g_baseX, g_baseY, g_timesPull, g_trialBaseX, g_trialBaseY, g_trialTimes, g_pulls, g_pullMany, g_sizes, g_merged, g_nextHole, g_nextOunces, g_leftBehind, g_manUp, g_manLow, g_asked, g_lowOf, g_highOf, g_tried, g_found, g_askedMany, g_mostHoles, g_isFound, g_foundRest, g_foundOunces, g_question, g_questionSpeed, g_ounceRest, g_parts, g_filled, g_cogAt, g_cogBest, g_isOrdered, g_orderSize, g_isKept, g_kept, g_keptAt]), (r_lead, aI G 4 fl2), (r_planeOf, aI G 16 fp), (r_holeX, aI G 16 fx), (r_holeY, aI G 16 fy), (r_ounces, aI G 16 fo)]) := by
  refine ct_of [(0, .ref mo)] (by decide) (Nat.le_of_ble_eq_true rfl) rfl ?_
  intro p0 e0 s0 m0 args0 below0 meth0 c0 A X
  refine z_run X be_X11_leadsNow_0_2 ke_X11_leadsNow_0_2 (lv' := [(0, .ref mo)]) (st' := [.ref mo, .ref mo]) rfl ?_
  refine z_get X fl_11_158 de_X11_leadsNow_2 0 rfl (v := .int g_poundHole) rfl ?_
  refine z_run X be_X11_leadsNow_5_6 ke_X11_leadsNow_5_6 (lv' := [(0, .ref mo)]) (st' := [.ref mo, .int g_poundHole, .ref mo]) rfl ?_
  refine z_get X fl_11_161 de_X11_leadsNow_6 0 rfl (v := .int g_poundOunces) rfl ?_
  refine z_callV X k_11_169 (ce_X11_leads l G mo th g_rows g_row hc r_planeOf r_holeX r_holeY r_room r_ounces r_deepOf sc r_factor r_otherOf r_isApart g_apartX g_apartY cc r_weight r_tape n p lim fi g_crossOf g_trueX g_trueY g_thoughtX g_thoughtY g_poundHole g_poundOunces r_lead g_trials g_trialSpeed g_isWhole g_trialX g_trialY g_trialGive g_trialLead g_baseX g_baseY g_timesPull g_trialBaseX g_trialBaseY g_trialTimes g_pulls g_pullMany g_sizes g_merged g_nextHole g_nextOunces g_leftBehind g_manUp g_manLow g_asked g_lowOf g_highOf g_tried g_found g_askedMany g_mostHoles g_isFound g_foundRest g_foundOunces g_question g_questionSpeed g_ounceRest g_parts g_filled g_cogAt g_cogBest g_isOrdered g_orderSize g_isKept g_kept g_keptAt fp fx fy fo fl g_poundHole g_poundOunces hci g_poundHole.toInt hhc rfl (by omega) (by omega)) de_X11_leadsNow_9 0 rfl rfl rfl ⟨Nat.le_of_ble_eq_true rfl, Nat.le_of_ble_eq_true rfl⟩ ⟨Nat.le_of_ble_eq_true rfl, Nat.le_of_ble_eq_true rfl⟩ rfl (rest := []) (As := [.int g_poundHole, .int g_poundOunces]) rfl (Nat.le_of_ble_eq_true rfl) [0, 1, 2, 3, 4, 5] [] rfl (by decide) (wr := []) rfl (by decide) (by decide) ?_
  rintro _ _ ⟨fl2_1, f9_2, rfl, rfl⟩
  refine Z.at (pc' := 12) (st' := []) (ws' := [(mo, ob 11 [.int th, g_rows, g_row, .int hc, .ref r_planeOf, .ref r_holeX, .ref r_holeY, .ref r_room, .ref r_ounces, .ref r_deepOf, .int sc, .ref r_factor, .ref r_otherOf, .ref r_isApart, g_apartX, g_apartY, .int cc, .ref r_weight, .ref r_tape, .int n, .int p, .int lim, .int fi, g_crossOf, g_trueX, g_trueY, g_thoughtX, g_thoughtY, .int g_poundHole, .int g_poundOunces, .ref r_lead, g_trials, g_trialSpeed, g_isWhole, g_trialX, g_trialY, g_trialGive, g_trialLead, g_baseX, g_baseY, g_timesPull, g_trialBaseX, g_trialBaseY, g_trialTimes, g_pulls, g_pullMany, g_sizes, g_merged, g_nextHole, g_nextOunces, g_leftBehind, g_manUp, g_manLow, g_asked, g_lowOf, g_highOf, g_tried, g_found, g_askedMany, g_mostHoles, g_isFound, g_foundRest, g_foundOunces, g_question, g_questionSpeed, g_ounceRest, g_parts, g_filled, g_cogAt, g_cogBest, g_isOrdered, g_orderSize, g_isKept, g_kept, g_keptAt]), (r_lead, aI G 4 fl2_1), (r_planeOf, aI G 16 fp), (r_holeX, aI G 16 fx), (r_holeY, aI G 16 fy), (r_ounces, aI G 16 fo)]) (kc' := 0) (ks' := 0) rfl rfl rfl rfl rfl ?_
  exact z_vret X rfl de_X11_leadsNow_12 (Nat.le_of_ble_eq_true rfl) (Nat.le_of_ble_eq_true rfl) ⟨fl2_1, (by assumption), rfl, rfl⟩
end
