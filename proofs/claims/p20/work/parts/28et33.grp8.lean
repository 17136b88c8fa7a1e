/-! the trials: alike on both sides, now and in what is kept -/
theorem MilE.spd {kn jn kh jh ks js kc jc : Nat} {n : Int32} {f : Nat → Int32} {h s c : Int32} {r : Option Value} {w1 : va_W} (H : MilE kn jn kh jh ks js kc jc n f h s c r w1) {P : Prop} (k : ∀ s' : Int32, fget w1 ks js = some (.int s') → s.toInt ≤ s'.toInt → P) : P := by
  have H0 := H
  obtain ⟨v, h2, s2, c2, -, C, -, -, f2, f3, f4⟩ := H
  exact k s2 f3 (H0.up f2 f3 f4).2.1.1
def tr6 (a b c d e f : Nat → Int32) : Nat → Nat → Int32 := fun k => if k = 0 then a else if k = 1 then b else if k = 2 then c else if k = 3 then d else if k = 4 then e else f
def TRx (G : KG) (w : va_W) (k : Nat) (F : Nat → Nat → Int32) : Prop := cget w k 0 = some (.inr (cyI G, 12, .inl (F 0))) ∧ cget w (k + 1) 0 = some (.inr (cyZ G, 12, .inl (F 1))) ∧ cget w (k + 2) 0 = some (.inr (cyI G, 12, .inl (F 2))) ∧ cget w (k + 3) 0 = some (.inr (cyI G, 12, .inl (F 3))) ∧ cget w (k + 4) 0 = some (.inr (cyI G, 12, .inl (F 4))) ∧ cget w (k + 5) 0 = some (.inr (cyI G, 48, .inl (F 5)))
/-- the first n of each are so -/
def TQ (G : KG) (w : va_W) (k : Nat) (F : Nat → Nat → Int32) : Prop := ∃ Q : Nat → Nat → Int32, TRx G w k Q ∧ (∀ a j : Nat, a < 5 → j < 12 → Q a j = F a j) ∧ ∀ j : Nat, j < 48 → Q 5 j = F 5 j
theorem TRx.app {G : KG} {w wc : va_W} {k : Nat} {F : Nat → Nat → Int32} (hk : k + 5 < w.length) (h : TRx G w k F) : TRx G (w ++ wc) k F := by
  obtain ⟨a, b, c, d, e, f⟩ := h
  exact ⟨by rw [cget_app (by omega)]; exact a, by rw [cget_app (by omega)]; exact b, by rw [cget_app (by omega)]; exact c, by rw [cget_app (by omega)]; exact d, by rw [cget_app (by omega)]; exact e, by rw [cget_app hk]; exact f⟩
theorem TQ.app {G : KG} {w wc : va_W} {k : Nat} {F : Nat → Nat → Int32} (hk : k + 5 < w.length) (h : TQ G w k F) : TQ G (w ++ wc) k F := by
  obtain ⟨Q, h1, h2⟩ := h
  exact ⟨Q, h1.app hk, h2⟩
theorem TRx.keep {G : KG} {w w' : va_W} {k N : Nat} {F : Nat → Nat → Int32} {m : List (Nat × Nat)} (h : TRx G w k F) (h1 : FX m N w w') (hk : k + 5 < N) (hm : ∀ a, a < 6 → mkq m (k + a) 0 = false) : TRx G w' k F := by
  obtain ⟨a, b, c, d, e, f⟩ := h
  exact ⟨(h1 k 0 (by omega) (hm 0 (by decide))).trans a, (h1 _ 0 (by omega) (hm 1 (by decide))).trans b, (h1 _ 0 (by omega) (hm 2 (by decide))).trans c, (h1 _ 0 (by omega) (hm 3 (by decide))).trans d, (h1 _ 0 (by omega) (hm 4 (by decide))).trans e, (h1 _ 0 hk (hm 5 (by decide))).trans f⟩
theorem TRx.inj {G : KG} {w : va_W} {k : Nat} {F H : Nat → Nat → Int32} (h : TRx G w k F) (h2 : TRx G w k H) : ∀ a : Nat, a < 6 → F a = H a := by
  obtain ⟨a1, b1, c1, d1, e1, f1⟩ := h
  obtain ⟨a2, b2, c2, d2, e2, f2⟩ := h2
  intro a ha
  rcases (by omega : a = 0 ∨ a = 1 ∨ a = 2 ∨ a = 3 ∨ a = 4 ∨ a = 5) with rfl | rfl | rfl | rfl | rfl | rfl
  · exact arrinj (a1.symm.trans a2)
  · exact arrinj (b1.symm.trans b2)
  · exact arrinj (c1.symm.trans c2)
  · exact arrinj (d1.symm.trans d2)
  · exact arrinj (e1.symm.trans e2)
  · exact arrinj (f1.symm.trans f2)
/-- what the numbers of a trial keep to -/
def TB1 (F : Nat → Nat → Int32) (s : Int) (j : Nat) : Prop := (0 ≤ (F 0 j).toInt ∧ (F 0 j).toInt < s) ∧ (0 ≤ (F 1 j).toInt ∧ (F 1 j).toInt ≤ 1) ∧ ((F 1 j).toInt ≠ 0 → (-99999 ≤ (F 2 j).toInt ∧ (F 2 j).toInt ≤ 99999) ∧ -99999 ≤ (F 3 j).toInt ∧ (F 3 j).toInt ≤ 99999) ∧ (0 ≤ (F 4 j).toInt ∧ (F 4 j).toInt ≤ 999) ∧ ∀ k : Nat, k < 4 → -16236 ≤ (F 5 (4 * j + k)).toInt ∧ (F 5 (4 * j + k)).toInt ≤ 16236
def TrB (F : Nat → Nat → Int32) (t s : Int) : Prop := ∀ j : Nat, (j : Int) < t → TB1 F s j
def TE1 (F H : Nat → Nat → Int32) (j : Nat) : Prop := (∀ a : Nat, a < 5 → F a j = H a j) ∧ ∀ k : Nat, k < 4 → F 5 (4 * j + k) = H 5 (4 * j + k)
def TrE (F H : Nat → Nat → Int32) (t : Int) : Prop := ∀ j : Nat, (j : Int) < t → TE1 F H j
theorem TB1.mono {F : Nat → Nat → Int32} {s s' : Int} {j : Nat} (h : TB1 F s j) (l : s ≤ s') : TB1 F s' j := ⟨⟨h.1.1, Int.lt_of_lt_of_le h.1.2 l⟩, h.2⟩
theorem TB1.cg {F Q : Nat → Nat → Int32} {s : Int} {j : Nat} (h : TB1 F s j) (e : TE1 Q F j) : TB1 Q s j := by
  unfold TB1 at h ⊢
  rw [e.1 0 (by decide), e.1 1 (by decide), e.1 2 (by decide), e.1 3 (by decide), e.1 4 (by decide)]
  exact ⟨h.1, h.2.1, h.2.2.1, h.2.2.2.1, fun k hk => by rw [e.2 k hk]; exact h.2.2.2.2 k hk⟩
theorem TQ.te {G : KG} {w : va_W} {k : Nat} {F Q : Nat → Nat → Int32} (h : (∀ a j : Nat, a < 5 → j < 12 → Q a j = F a j) ∧ ∀ j : Nat, j < 48 → Q 5 j = F 5 j) {j : Nat} (hj : j < 12) : TE1 Q F j := ⟨fun a ha => h.1 a j ha hj, fun k hk => h.2 _ (by omega)⟩
def RelTr (G : KG) (wx wm : va_W) : Prop := ∃ (t s : Int32) (F H : Nat → Nat → Int32), (fget wx 22 0 = some (.int t) ∧ fget wm 0 31 = some (.int t)) ∧ fget wx 12 0 = some (.int s) ∧ TRx G wx 23 F ∧ TRx G wm 21 H ∧ (0 ≤ t.toInt ∧ t.toInt ≤ 12) ∧ TrB F t.toInt s.toInt ∧ TrE F H t.toInt
/-- the trials as they lie in the reference's row of what is kept -/
def KtE (F : Nat → Nat → Int32) (e : Nat → Int32) (j : Nat) : Prop := (e (45 + 9 * j) = F 0 j ∧ e (46 + 9 * j) = F 1 j ∧ e (47 + 9 * j) = F 2 j ∧ e (48 + 9 * j) = F 3 j ∧ e (49 + 9 * j) = F 4 j) ∧ ∀ k : Nat, k < 4 → e (50 + 9 * j + k) = F 5 (4 * j + k)
def RKt (G : KG) (s : Int) (kk b : Nat → Int32) (wx : va_W) (i : Nat) : Prop := ∃ (fl c : Int32) (F : Nat → Nat → Int32), fget wx (46 + 19 * i) 0 = some (.int fl) ∧ fget wx (55 + 19 * i) 0 = some (.int c) ∧ TRx G wx (56 + 19 * i) F ∧ b i = fl ∧ (0 ≤ fl.toInt ∧ fl.toInt ≤ 1) ∧ (0 ≤ c.toInt ∧ c.toInt ≤ 12) ∧ (fl.toInt ≠ 0 → kk (154 * i + 44) = c ∧ TrB F c.toInt s ∧ ∀ j : Nat, (j : Int) < c.toInt → KtE F (fun n => kk (154 * i + n)) j)
def RelKt (G : KG) (wx wm : va_W) : Prop := ∃ (s : Int32) (b kk : Nat → Int32), fget wx 12 0 = some (.int s) ∧ cget wm 45 0 = some (.inr (cyZ G, 3, .inl b)) ∧ cget wm 46 0 = some (.inr (cyI G, 462, .inl kk)) ∧ ∀ i : Nat, i < 3 → RKt G s.toInt kk b wx i
/-- what lies in the reference's row after keep: the trials -/
def KpT (G : KG) (i : Nat) (b kk : Nat → Int32) (t : Int32) (H : Nat → Nat → Int32) (w1 : va_W) : Prop := (∃ q : Nat → Int32, cget w1 45 0 = some (.inr (cyZ G, 3, .inl q)) ∧ ∀ j : Nat, j < 3 → q j = if j = i then 1 else b j) ∧ ∃ q : Nat → Int32, cget w1 46 0 = some (.inr (cyI G, 462, .inl q)) ∧ q (154 * i + 44) = t ∧ (∀ j : Nat, j < 12 → (q (154 * i + (45 + 9 * j)) = H 0 j ∧ q (154 * i + (46 + 9 * j)) = (if (H 1 j).toInt = 0 then 0 else 1) ∧ q (154 * i + (47 + 9 * j)) = H 2 j ∧ q (154 * i + (48 + 9 * j)) = H 3 j ∧ q (154 * i + (49 + 9 * j)) = H 4 j) ∧ ∀ k : Nat, k < 4 → q (154 * i + (50 + 9 * j + k)) = H 5 (4 * j + k)) ∧ ∀ j : Nat, j < 462 → (j < 154 * i ∨ 154 * i + 153 ≤ j) → q j = kk j
/-- what again brings back of the trials, in the reference -/
def GtT (G : KG) (i : Nat) (kk : Nat → Int32) (w1 : va_W) : Prop := fget w1 0 31 = some (.int (kk (154 * i + 44))) ∧ ∃ H : Nat → Nat → Int32, TRx G w1 21 H ∧ ∀ j : Nat, j < 12 → (H 0 j = kk (154 * i + (45 + 9 * j)) ∧ H 1 j = (if (kk (154 * i + (46 + 9 * j))).toInt = 1 then 1 else 0) ∧ H 2 j = kk (154 * i + (47 + 9 * j)) ∧ H 3 j = kk (154 * i + (48 + 9 * j)) ∧ H 4 j = kk (154 * i + (49 + 9 * j))) ∧ ∀ k : Nat, k < 4 → H 5 (4 * j + k) = kk (154 * i + (50 + 9 * j + k))
section GR8
variable {G : KG} {wx wm wx' wm' : va_W} {m m' : List (Nat × Nat)}
theorem RelTr.keep (h : RelTr G wx wm) (h1 : FX m 109 wx wx') (h2 : FX m' 47 wm wm') (hm : (mkq m 22 0 = false ∧ mkq m' 0 31 = false) ∧ mkq m 12 0 = false ∧ (∀ a, a < 6 → mkq m (23 + a) 0 = false) ∧ ∀ a, a < 6 → mkq m' (21 + a) 0 = false) : RelTr G wx' wm' := by
  obtain ⟨t, s, F, H, ⟨e1, e2⟩, e3, e4, e5, e6⟩ := h
  exact ⟨t, s, F, H, ⟨h1.get (by decide) hm.1.1 e1, h2.get (by decide) hm.1.2 e2⟩, h1.get (by decide) hm.2.1 e3, e4.keep h1 (by decide) hm.2.2.1, e5.keep h2 (by decide) hm.2.2.2, e6⟩
abbrev mKt (m : List (Nat × Nat)) (i : Nat) : Prop := mkq m (46 + 19 * i) 0 = false ∧ mkq m (55 + 19 * i) 0 = false ∧ ∀ a, a < 6 → mkq m (56 + 19 * i + a) 0 = false
theorem RKt.keep {s : Int} {kk b : Nat → Int32} {i : Nat} (H : RKt G s kk b wx i) (h1 : FX m 109 wx wx') (hi : i < 3) (hm : mKt m i) : RKt G s kk b wx' i := by
  obtain ⟨fl, c, F, e1, e2, e3, e4⟩ := H
  exact ⟨fl, c, F, h1.get (by omega) hm.1 e1, h1.get (by omega) hm.2.1 e2, e3.keep h1 (by omega) hm.2.2, e4⟩
theorem RKt.mono {s s' : Int} {kk b : Nat → Int32} {i : Nat} (H : RKt G s kk b wx i) (l : s ≤ s') : RKt G s' kk b wx i := by
  obtain ⟨fl, c, F, e1, e2, e3, e4, e5, e6, e7⟩ := H
  exact ⟨fl, c, F, e1, e2, e3, e4, e5, e6, fun hf => ⟨(e7 hf).1, fun j hj => ((e7 hf).2.1 j hj).mono l, (e7 hf).2.2⟩⟩
theorem RelKt.keep (h : RelKt G wx wm) (h1 : FX m 109 wx wx') (h2 : FX m' 47 wm wm') (hm : (mKt m 0 ∧ mKt m 1 ∧ mKt m 2) ∧ mkq m 12 0 = false ∧ mkq m' 45 0 = false ∧ mkq m' 46 0 = false) : RelKt G wx' wm' := by
  obtain ⟨s, b, kk, e1, e3, e4, e5⟩ := h
  refine ⟨s, b, kk, h1.get (by decide) hm.2.1 e1, (h2 45 0 (by decide) hm.2.2.1).trans e3, (h2 46 0 (by decide) hm.2.2.2).trans e4, fun i hi => (e5 i hi).keep h1 hi ?_⟩
  rcases (by omega : i = 0 ∨ i = 1 ∨ i = 2) with rfl | rfl | rfl
  · exact hm.1.1
  · exact hm.1.2.1
  · exact hm.1.2.2
-- mill: more speeds
theorem RelTr.mil (h : RelTr G wx wm) (h1 : FX m 109 wx wx') (h2 : FX m' 47 wm wm') (hm : (mkq m 22 0 = false ∧ mkq m' 0 31 = false) ∧ (∀ a, a < 6 → mkq m (23 + a) 0 = false) ∧ ∀ a, a < 6 → mkq m' (21 + a) 0 = false) {s s' : Int32} (es : fget wx 12 0 = some (.int s)) (es' : fget wx' 12 0 = some (.int s')) (l : s.toInt ≤ s'.toInt) : RelTr G wx' wm' := by
  obtain ⟨t, s9, F, H, ⟨e1, e2⟩, e3, e4, e5, e6, e7, e8⟩ := h
  obtain rfl := some_int (es.symm.trans e3)
  exact ⟨t, s', F, H, ⟨h1.get (by decide) hm.1.1 e1, h2.get (by decide) hm.1.2 e2⟩, es', e4.keep h1 (by decide) hm.2.1, e5.keep h2 (by decide) hm.2.2, e6, fun j hj => (e7 j hj).mono l, e8⟩
theorem RelKt.mil (h : RelKt G wx wm) (h1 : FX m 109 wx wx') (h2 : FX m' 47 wm wm') (hm : (mKt m 0 ∧ mKt m 1 ∧ mKt m 2) ∧ mkq m' 45 0 = false ∧ mkq m' 46 0 = false) {s s' : Int32} (es : fget wx 12 0 = some (.int s)) (es' : fget wx' 12 0 = some (.int s')) (l : s.toInt ≤ s'.toInt) : RelKt G wx' wm' := by
  obtain ⟨s9, b, kk, e1, e3, e4, e5⟩ := h
  obtain rfl := some_int (es.symm.trans e1)
  refine ⟨s', b, kk, es', (h2 45 0 (by decide) hm.2.1).trans e3, (h2 46 0 (by decide) hm.2.2).trans e4, fun i hi => ((e5 i hi).keep h1 hi ?_).mono l⟩
  rcases (by omega : i = 0 ∨ i = 1 ∨ i = 2) with rfl | rfl | rfl
  · exact hm.1.1
  · exact hm.1.2.1
  · exact hm.1.2.2
-- drop, refusals: the number alone
theorem RelTr.cnt (h : RelTr G wx wm) (h1 : FX m 109 wx wx') (h2 : FX m' 47 wm wm') (hm : mkq m 12 0 = false ∧ (∀ a, a < 6 → mkq m (23 + a) 0 = false) ∧ ∀ a, a < 6 → mkq m' (21 + a) 0 = false) {t t' : Int32} (et : fget wx 22 0 = some (.int t)) (l : 0 ≤ t'.toInt ∧ t'.toInt ≤ t.toInt) (A : fget wx' 22 0 = some (.int t')) (B : fget wm' 0 31 = some (.int t')) : RelTr G wx' wm' := by
  obtain ⟨t9, s, F, H, ⟨e1, e2⟩, e3, e4, e5, e6, e7, e8⟩ := h
  obtain rfl := some_int (et.symm.trans e1)
  exact ⟨t', s, F, H, ⟨A, B⟩, h1.get (by decide) hm.1 e3, e4.keep h1 (by decide) hm.2.1, e5.keep h2 (by decide) hm.2.2, ⟨l.1, by omega⟩, fun j hj => e7 j (by omega), fun j hj => e8 j (by omega)⟩
/-- whole, much: what is laid behind the last -/
def aT (ok : Prop) [Decidable ok] (F : Nat → Nat → Int32) (t : Int32) (sq wq uq vq gq : Int32) (L : Nat → Int32) : Nat → Nat → Int32 := if ok then tr6 (upd (F 0) t.toNatClampNeg sq) (upd (F 1) t.toNatClampNeg wq) (upd (F 2) t.toNatClampNeg uq) (upd (F 3) t.toNatClampNeg vq) (upd (F 4) t.toNatClampNeg gq) (tl4 L (F 5) t.toInt) else F
def aN (ok : Prop) [Decidable ok] (t : Int32) : Int32 := if ok then t + 1 else t
theorem tl4_in {v f : Nat → Int32} {c : Int} {k : Nat} (hc : 0 ≤ c) (hk : k < 4) : tl4 v f c (4 * c.toNat + k) = v k := by
  unfold tl4
  rw [if_pos (by omega)]
  exact congrArg v (by omega)
theorem tl4_out {v f : Nat → Int32} {c : Int} {j k : Nat} (hj : (j : Int) < c) (hk : k < 4) : tl4 v f c (4 * j + k) = f (4 * j + k) := by
  unfold tl4
  rw [if_neg (by omega)]
theorem TE1.old {F : Nat → Nat → Int32} {t sq wq uq vq gq : Int32} {L : Nat → Int32} {j : Nat} (hj : (j : Int) < t.toInt) : TE1 (tr6 (upd (F 0) t.toNatClampNeg sq) (upd (F 1) t.toNatClampNeg wq) (upd (F 2) t.toNatClampNeg uq) (upd (F 3) t.toNatClampNeg vq) (upd (F 4) t.toNatClampNeg gq) (tl4 L (F 5) t.toInt)) F j := by
  have hne : j ≠ t.toNatClampNeg := show j ≠ t.toInt.toNat by omega
  refine ⟨fun a ha => ?_, fun k hk => tl4_out hj hk⟩
  rcases (by omega : a = 0 ∨ a = 1 ∨ a = 2 ∨ a = 3 ∨ a = 4) with rfl | rfl | rfl | rfl | rfl
  · exact upd_off hne
  · exact upd_off hne
  · exact upd_off hne
  · exact upd_off hne
  · exact upd_off hne
theorem add1_12 {t : Int32} (h : 0 ≤ t.toInt ∧ t.toInt ≤ 12) : (t + 1).toInt = t.toInt + 1 := tI_add rfl (show (1 : Int32).toInt = 1 from by decide) (by omega)
theorem RelTr.add (h : RelTr G wx wm) (h1 : FX m 109 wx wx') (hm : mkq m 12 0 = false) {ok : Prop} [Decidable ok] {t s sq wq uq vq gq : Int32} {F H : Nat → Nat → Int32} {L L' : Nat → Int32} (et : fget wx 22 0 = some (.int t)) (es : fget wx 12 0 = some (.int s)) (eF : TRx G wx 23 F) (eH : TRx G wm 21 H) (hok : ok → t.toInt < 12 ∧ (0 ≤ sq.toInt ∧ sq.toInt < s.toInt) ∧ (0 ≤ wq.toInt ∧ wq.toInt ≤ 1) ∧ (wq.toInt ≠ 0 → (-99999 ≤ uq.toInt ∧ uq.toInt ≤ 99999) ∧ -99999 ≤ vq.toInt ∧ vq.toInt ≤ 99999) ∧ 0 ≤ gq.toInt ∧ gq.toInt ≤ 999) (hL : ∀ k : Nat, k < 4 → L k = L' k ∧ -16236 ≤ (L k).toInt ∧ (L k).toInt ≤ 16236)
    (A : fget wx' 22 0 = some (.int (aN ok t)) ∧ TQ G wx' 23 (aT ok F t sq wq uq vq gq L)) (B : fget wm' 0 31 = some (.int (aN ok t)) ∧ TQ G wm' 21 (aT ok H t sq wq uq vq gq L')) : RelTr G wx' wm' := by
  obtain ⟨t9, s9, F9, H9, ⟨e1, e2⟩, e3, e4, e5, e6, e7, e8⟩ := h
  obtain rfl := some_int (et.symm.trans e1)
  obtain rfl := some_int (es.symm.trans e3)
  have fF := eF.inj e4
  have fH := eH.inj e5
  obtain ⟨a1, Q, a2, a3⟩ := A
  obtain ⟨b1, P, b2, b3⟩ := B
  have eqF : ∀ j, TE1 F F9 j := fun j => ⟨fun a ha => by rw [fF a (by omega)], fun k _ => by rw [fF 5 (by decide)]⟩
  have eqH : ∀ j, TE1 H H9 j := fun j => ⟨fun a ha => by rw [fH a (by omega)], fun k _ => by rw [fH 5 (by decide)]⟩
  by_cases hq : ok
  · obtain ⟨o1, o2, o3, o4, o5⟩ := hok hq
    have e9 : (t + 1).toInt = t.toInt + 1 := add1_12 e6
    unfold aN at a1 b1
    unfold aT at a3 b3
    rw [if_pos hq] at a1 b1 a3 b3
    have tn : t.toNatClampNeg = t.toInt.toNat := rfl
    have key : ∀ j : Nat, (j : Int) < t.toInt + 1 → TB1 Q s.toInt j ∧ TE1 Q P j := by
      intro j hj
      by_cases hl : (j : Int) < t.toInt
      · have q1 := TQ.te (G := G) (w := wx') (k := 23) a3 (j := j) (by omega)
        have p1 := TQ.te (G := G) (w := wm') (k := 21) b3 (j := j) (by omega)
        have q2 := TE1.old (F := F) (sq := sq) (wq := wq) (uq := uq) (vq := vq) (gq := gq) (L := L) hl
        have p2 := TE1.old (F := H) (sq := sq) (wq := wq) (uq := uq) (vq := vq) (gq := gq) (L := L') hl
        have q4 : TE1 Q F9 j := ⟨fun a ha => (q1.1 a ha).trans ((q2.1 a ha).trans ((eqF j).1 a ha)), fun k hk => (q1.2 k hk).trans ((q2.2 k hk).trans ((eqF j).2 k hk))⟩
        have p4 : TE1 P H9 j := ⟨fun a ha => (p1.1 a ha).trans ((p2.1 a ha).trans ((eqH j).1 a ha)), fun k hk => (p1.2 k hk).trans ((p2.2 k hk).trans ((eqH j).2 k hk))⟩
        have q3 := e8 j hl
        exact ⟨(e7 j hl).cg q4, fun a ha => (q4.1 a ha).trans ((q3.1 a ha).trans (p4.1 a ha).symm), fun k hk => (q4.2 k hk).trans ((q3.2 k hk).trans (p4.2 k hk).symm)⟩
      · have ej : j = t.toInt.toNat := by omega
        subst ej
        have u : ∀ (f : Nat → Int32) (v : Int32), upd f t.toNatClampNeg v t.toInt.toNat = v := fun f v => upd_at
        have q0 : Q 0 t.toInt.toNat = sq := (a3.1 0 _ (by decide) (by omega)).trans (u _ _)
        have q1 : Q 1 t.toInt.toNat = wq := (a3.1 1 _ (by decide) (by omega)).trans (u _ _)
        have q2 : Q 2 t.toInt.toNat = uq := (a3.1 2 _ (by decide) (by omega)).trans (u _ _)
        have q3 : Q 3 t.toInt.toNat = vq := (a3.1 3 _ (by decide) (by omega)).trans (u _ _)
        have q4 : Q 4 t.toInt.toNat = gq := (a3.1 4 _ (by decide) (by omega)).trans (u _ _)
        have q5 : ∀ k : Nat, k < 4 → Q 5 (4 * t.toInt.toNat + k) = L k := fun k hk => (a3.2 _ (by omega)).trans (tl4_in e6.1 hk)
        have p0 : P 0 t.toInt.toNat = sq := (b3.1 0 _ (by decide) (by omega)).trans (u _ _)
        have p1 : P 1 t.toInt.toNat = wq := (b3.1 1 _ (by decide) (by omega)).trans (u _ _)
        have p2 : P 2 t.toInt.toNat = uq := (b3.1 2 _ (by decide) (by omega)).trans (u _ _)
        have p3 : P 3 t.toInt.toNat = vq := (b3.1 3 _ (by decide) (by omega)).trans (u _ _)
        have p4 : P 4 t.toInt.toNat = gq := (b3.1 4 _ (by decide) (by omega)).trans (u _ _)
        have p5 : ∀ k : Nat, k < 4 → P 5 (4 * t.toInt.toNat + k) = L' k := fun k hk => (b3.2 _ (by omega)).trans (tl4_in e6.1 hk)
        refine ⟨?_, fun a ha => ?_, fun k hk => by rw [q5 k hk, p5 k hk]; exact (hL k hk).1⟩
        · unfold TB1
          rw [q0, q1, q2, q3, q4]
          exact ⟨o2, o3, o4, o5, fun k hk => by rw [q5 k hk]; exact (hL k hk).2⟩
        · rcases (by omega : a = 0 ∨ a = 1 ∨ a = 2 ∨ a = 3 ∨ a = 4) with rfl | rfl | rfl | rfl | rfl
          · rw [q0, p0]
          · rw [q1, p1]
          · rw [q2, p2]
          · rw [q3, p3]
          · rw [q4, p4]
    exact ⟨t + 1, s, Q, P, ⟨a1, b1⟩, h1.get (by decide) hm e3, a2, b2, by rw [e9]; omega, fun j hj => (key j (by omega)).1, fun j hj => (key j (by omega)).2⟩
  · unfold aN at a1 b1
    unfold aT at a3 b3
    rw [if_neg hq] at a1 b1 a3 b3
    have key : ∀ j : Nat, (j : Int) < t.toInt → TE1 Q F9 j ∧ TE1 P H9 j := fun j hj => by
      have q1 := TQ.te (G := G) (w := wx') (k := 23) a3 (j := j) (by omega)
      have p1 := TQ.te (G := G) (w := wm') (k := 21) b3 (j := j) (by omega)
      exact ⟨⟨fun a ha => (q1.1 a ha).trans ((eqF j).1 a ha), fun k hk => (q1.2 k hk).trans ((eqF j).2 k hk)⟩, fun a ha => (p1.1 a ha).trans ((eqH j).1 a ha), fun k hk => (p1.2 k hk).trans ((eqH j).2 k hk)⟩
    refine ⟨t, s, Q, P, ⟨a1, b1⟩, h1.get (by decide) hm e3, a2, b2, e6, fun j hj => (e7 j hj).cg (key j hj).1, fun j hj => ?_⟩
    have q3 := e8 j hj
    have k9 := key j hj
    exact ⟨fun a ha => (k9.1.1 a ha).trans ((q3.1 a ha).trans (k9.2.1 a ha).symm), fun k hk => (k9.1.2 k hk).trans ((q3.2 k hk).trans (k9.2.2 k hk).symm)⟩
/-- a number is kept: its trials -/
theorem RelKt.kpT (hK : RelKt G wx wm) (hT : RelTr G wx wm) (h1 : FX m 109 wx wx') {i : Nat} (hi : i < 3) (hm : (∀ j : Nat, j < 3 → j ≠ i → mKt m j) ∧ mkq m 12 0 = false) {b kk : Nat → Int32} {t : Int32} {F H : Nat → Nat → Int32} (eb : cget wm 45 0 = some (.inr (cyZ G, 3, .inl b))) (ek : cget wm 46 0 = some (.inr (cyI G, 462, .inl kk))) (et : fget wx 22 0 = some (.int t)) (eF : TRx G wx 23 F) (eH : TRx G wm 21 H)
    (A : fget wx' (46 + 19 * i) 0 = some (.int 1) ∧ fget wx' (55 + 19 * i) 0 = some (.int t) ∧ TQ G wx' (56 + 19 * i) F) (B : KpT G i b kk t H wm') : RelKt G wx' wm' := by
  obtain ⟨s, b9, k9, q1, q3, q4, q5⟩ := hK
  obtain rfl := arrinjZ (eb.symm.trans q3)
  obtain rfl := arrinj (ek.symm.trans q4)
  obtain ⟨t9, s9, F9, H9, ⟨e1, e2⟩, e3, e4, e5, e6, e7, e8⟩ := hT
  obtain rfl := some_int (et.symm.trans e1)
  obtain rfl := some_int (q1.symm.trans e3)
  have fF := eF.inj e4
  have fH := eH.inj e5
  obtain ⟨⟨b2, c1, c2⟩, k2, c3, c4, c5, c6⟩ := B
  refine ⟨s, b2, k2, h1.get (by decide) hm.2 q1, c1, c3, fun j hj => ?_⟩
  by_cases ej : j = i
  · subst ej
    obtain ⟨a1, a2, Q, a3, a4⟩ := A
    refine ⟨1, t, Q, a1, a2, a3, by rw [c2 j hj, if_pos rfl], by decide, e6, fun _ => ⟨c4, fun z hz => ?_, fun z hz => ?_⟩⟩
    · have q1 := TQ.te (G := G) (w := wx') (k := 56 + 19 * j) a4 (j := z) (by omega)
      exact (e7 z hz).cg ⟨fun a ha => by rw [q1.1 a ha, fF a (by omega)], fun k hk => by rw [q1.2 k hk, fF 5 (by decide)]⟩
    · have q1 := TQ.te (G := G) (w := wx') (k := 56 + 19 * j) a4 (j := z) (by omega)
      have q2 : TE1 Q H z := ⟨fun a ha => by rw [q1.1 a ha, fF a (by omega), (e8 z hz).1 a ha, fH a (by omega)], fun k hk => by rw [q1.2 k hk, fF 5 (by decide), (e8 z hz).2 k hk, fH 5 (by decide)]⟩
      have w01 := (e7 z hz).2.1
      have ew : (if (H 1 z).toInt = 0 then (0 : Int32) else 1) = H 1 z := by
        have ez : F9 1 z = H 1 z := by rw [(e8 z hz).1 1 (by decide), fH 1 (by decide)]
        rw [ez] at w01
        rcases (by omega : (H 1 z).toInt = 0 ∨ (H 1 z).toInt = 1) with c | c
        · rw [if_pos c]
          exact Int32.toInt_inj.mp ((show (0 : Int32).toInt = 0 from by decide).trans c.symm)
        · rw [if_neg (by omega)]
          exact Int32.toInt_inj.mp ((show (1 : Int32).toInt = 1 from by decide).trans c.symm)
      obtain ⟨⟨d0, d1, d2, d3, d4⟩, d5⟩ := c5 z (by omega)
      refine ⟨⟨?_, ?_, ?_, ?_, ?_⟩, fun k hk => ?_⟩
      · rw [q2.1 0 (by decide)]; exact d0
      · rw [q2.1 1 (by decide)]; exact d1.trans ew
      · rw [q2.1 2 (by decide)]; exact d2
      · rw [q2.1 3 (by decide)]; exact d3
      · rw [q2.1 4 (by decide)]; exact d4
      · rw [q2.2 k hk]; exact d5 k hk
  · obtain ⟨fl, c, F8, y1, y2, y3, y4, y5, y6, y7⟩ := (q5 j hj).keep h1 hj (hm.1 j hj ej)
    refine ⟨fl, c, F8, y1, y2, y3, ?_, y5, y6, fun hf => ⟨?_, (y7 hf).2.1, fun z hz => ?_⟩⟩
    · rw [c2 j hj, if_neg ej]
      exact y4
    · rw [c6 _ (by omega) (by omega)]
      exact (y7 hf).1
    · obtain ⟨⟨d0, d1, d2, d3, d4⟩, d5⟩ := (y7 hf).2.2 z hz
      have kz : ∀ n : Nat, n < 153 → k2 (154 * j + n) = kk (154 * j + n) := fun n hn => c6 _ (by omega) (by omega)
      refine ⟨⟨(kz _ (by omega)).trans d0, (kz _ (by omega)).trans d1, (kz _ (by omega)).trans d2, (kz _ (by omega)).trans d3, (kz _ (by omega)).trans d4⟩, fun k hk => (kz _ (by omega)).trans (d5 k hk)⟩
/-- what was kept comes back -/
theorem RKt.back {s : Int32} {kk b : Nat → Int32} {i : Nat} (K : RKt G s.toInt kk b wx i) (h1 : FX m 109 wx wx') (hm : mkq m 12 0 = false) {fl c : Int32} {F : Nat → Nat → Int32} (efl : fget wx (46 + 19 * i) 0 = some (.int fl)) (hf : fl.toInt ≠ 0) (ec : fget wx (55 + 19 * i) 0 = some (.int c)) (eF : TRx G wx (56 + 19 * i) F) (es : fget wx 12 0 = some (.int s))
    (A : fget wx' 22 0 = some (.int c) ∧ TQ G wx' 23 F) (B : GtT G i kk wm') : RelTr G wx' wm' := by
  obtain ⟨f9, c9, F9, k1, k2, k3, -, -, k6, k7⟩ := K
  obtain rfl := some_int (efl.symm.trans k1)
  obtain rfl := some_int (ec.symm.trans k2)
  have fF := eF.inj k3
  obtain ⟨z1, z2, z3⟩ := k7 hf
  obtain ⟨a1, Q, a2, a3⟩ := A
  obtain ⟨b1, H, b2, b3⟩ := B
  rw [z1] at b1
  have q9 : ∀ j : Nat, (j : Int) < c.toInt → TE1 Q F9 j := fun j hj => by
    have q1 := TQ.te (G := G) (w := wx') (k := 23) a3 (j := j) (by omega)
    exact ⟨fun a ha => by rw [q1.1 a ha, fF a (by omega)], fun k hk => by rw [q1.2 k hk, fF 5 (by decide)]⟩
  refine ⟨c, s, Q, H, ⟨a1, b1⟩, h1.get (by decide) hm es, a2, b2, k6, fun j hj => (z2 j hj).cg (q9 j hj), fun j hj => ?_⟩
  obtain ⟨⟨d0, d1, d2, d3, d4⟩, d5⟩ := b3 j (by omega)
  obtain ⟨⟨y0, y1, y2, y3, y4⟩, y5⟩ := z3 j hj
  have w01 := (z2 j hj).2.1
  have ew : (if (F9 1 j).toInt = 1 then (1 : Int32) else 0) = F9 1 j := by
    rcases (by omega : (F9 1 j).toInt = 0 ∨ (F9 1 j).toInt = 1) with c | c
    · rw [if_neg (by omega)]
      exact Int32.toInt_inj.mp ((show (0 : Int32).toInt = 0 from by decide).trans c.symm)
    · rw [if_pos c]
      exact Int32.toInt_inj.mp ((show (1 : Int32).toInt = 1 from by decide).trans c.symm)
  have y1 : kk (154 * i + (46 + 9 * j)) = F9 1 j := y1
  rw [y1, ew] at d1
  refine ⟨fun a ha => ?_, fun k hk => ((q9 j hj).2 k hk).trans ((y5 k hk).symm.trans (d5 k hk).symm)⟩
  rcases (by omega : a = 0 ∨ a = 1 ∨ a = 2 ∨ a = 3 ∨ a = 4) with rfl | rfl | rfl | rfl | rfl
  · exact ((q9 j hj).1 0 ha).trans (y0.symm.trans d0.symm)
  · exact ((q9 j hj).1 1 ha).trans d1.symm
  · exact ((q9 j hj).1 2 ha).trans (y2.symm.trans d2.symm)
  · exact ((q9 j hj).1 3 ha).trans (y3.symm.trans d3.symm)
  · exact ((q9 j hj).1 4 ha).trans (y4.symm.trans d4.symm)
/-- the trials stay: refused on both sides -/
theorem RelTr.same (hT : RelTr G wx wm) (h1 : FX m 109 wx wx') (hm : mkq m 22 0 = false ∧ mkq m 12 0 = false ∧ ∀ a, a < 6 → mkq m (23 + a) 0 = false) {t : Int32} {H : Nat → Nat → Int32} (et : fget wm 0 31 = some (.int t)) (eH : TRx G wm 21 H) (B : fget wm' 0 31 = some (.int t) ∧ TQ G wm' 21 H) : RelTr G wx' wm' := by
  obtain ⟨t9, s, F, H9, ⟨e1, e2⟩, e3, e4, e5, e6, e7, e8⟩ := hT
  obtain rfl := some_int (et.symm.trans e2)
  have fH := eH.inj e5
  obtain ⟨b1, Q, b2, b3⟩ := B
  refine ⟨t, s, F, Q, ⟨h1.get (by decide) hm.1 e1, b1⟩, h1.get (by decide) hm.2.1 e3, e4.keep h1 (by decide) hm.2.2, b2, e6, e7, fun j hj => ?_⟩
  have q1 := TQ.te (G := G) (w := wm') (k := 21) b3 (j := j) (by omega)
  exact ⟨fun a ha => by rw [q1.1 a ha, fH a (by omega)]; exact (e8 j hj).1 a ha, fun k hk => by rw [q1.2 k hk, fH 5 (by decide)]; exact (e8 j hj).2 k hk⟩
end GR8
def RelV (G : KG) (wx wm : va_W) : Prop := RelS G wx wm ∧ RelTr G wx wm ∧ RelKt G wx wm
section RLV
variable {G : KG} {wx wm : va_W}
theorem RelV.of (a : RelM G wx wm) (b : RelAr G wx wm) (c : RelD G wx wm) (d : RelC G wx wm) (e : RelXY G wx wm) (f : RelB G wx wm) (g : RelH G wx wm) (h : RelTh G wx wm) (i : RelKh G wx wm) (p : RelPd G wx wm) (u : RelMt G wx wm) (w : RelKp G wx wm) (r : RelTr G wx wm) (v : RelKt G wx wm) : RelV G wx wm := ⟨RelS.of a b c d e f g h i p u w, r, v⟩
theorem RelV.m (q : RelV G wx wm) : RelM G wx wm := q.1.m
theorem RelV.a (q : RelV G wx wm) : RelAr G wx wm := q.1.a
theorem RelV.d (q : RelV G wx wm) : RelD G wx wm := q.1.d
theorem RelV.c (q : RelV G wx wm) : RelC G wx wm := q.1.c
theorem RelV.x (q : RelV G wx wm) : RelXY G wx wm := q.1.x
theorem RelV.b (q : RelV G wx wm) : RelB G wx wm := q.1.b
theorem RelV.h (q : RelV G wx wm) : RelH G wx wm := q.1.h
theorem RelV.t (q : RelV G wx wm) : RelTh G wx wm := q.1.t
theorem RelV.k (q : RelV G wx wm) : RelKh G wx wm := q.1.k
theorem RelV.p (q : RelV G wx wm) : RelPd G wx wm := q.1.p
theorem RelV.u (q : RelV G wx wm) : RelMt G wx wm := q.1.u
theorem RelV.w (q : RelV G wx wm) : RelKp G wx wm := q.1.w
theorem RelV.r (q : RelV G wx wm) : RelTr G wx wm := q.2.1
theorem RelV.v (q : RelV G wx wm) : RelKt G wx wm := q.2.2
end RLV
