/-! trials and pulls that agree, as numbers -/
/-- a pull agrees with a trial: as the class asks, as the reference asks -/
abbrev agX (S bx by_ w fi se gi x y : Int32) : Prop := (w.toInt ≠ 0 ∧ (-gi.toInt ≤ (S * x + bx - fi).toInt ∧ (S * x + bx - fi).toInt ≤ gi.toInt) ∧ -gi.toInt ≤ (S * y + by_ - se).toInt ∧ (S * y + by_ - se).toInt ≤ gi.toInt) ∨ (w.toInt = 0 ∧ fi.toInt ≤ (szL (S * x + bx).toInt64 (S * y + by_).toInt64).toInt ∧ (szL (S * x + bx).toInt64 (S * y + by_).toInt64).toInt ≤ se.toInt)
def labs (v : Int64) : Int64 := if 0 < v then v else -v
abbrev agR (tm bx by_ : Int64) (w fi se gi x y : Int32) : Prop := (w.toInt ≠ 0 ∧ (labs (bx + tm * x.toInt64 - fi.toInt64)).toInt ≤ gi.toInt ∧ (labs (by_ + tm * y.toInt64 - se.toInt64)).toInt ≤ gi.toInt) ∨ (w.toInt = 0 ∧ fi.toInt ≤ (szL (bx + tm * x.toInt64) (by_ + tm * y.toInt64)).toInt ∧ (szL (bx + tm * x.toInt64) (by_ + tm * y.toInt64)).toInt ≤ se.toInt)
theorem labs_le {v : Int64} {g : Int} (h : -1000000000000 ≤ v.toInt ∧ v.toInt ≤ 1000000000000) : (labs v).toInt ≤ g ↔ -g ≤ v.toInt ∧ v.toInt ≤ g := by
  unfold labs
  have z0 : (0 : Int64).toInt = 0 := by decide
  by_cases c : 0 < v
  · have c1 := Int64.lt_iff_toInt_lt.mp c
    rw [if_pos c]
    omega
  · have c1 : ¬ (0 : Int64).toInt < v.toInt := fun q => c (Int64.lt_iff_toInt_lt.mpr q)
    have e : (-v).toInt = -v.toInt := tJ_neg rfl (by omega)
    rw [if_neg c, e]
    omega
/-- felt with a pull: int and long alike -/
theorem fx_L {S bx x : Int32} {tm B : Int64} (hS : -81 ≤ S.toInt ∧ S.toInt ≤ 81) (hb : -4000000 ≤ bx.toInt ∧ bx.toInt ≤ 4000000) (hx : -60 ≤ x.toInt ∧ x.toInt ≤ 60) (et : tm = S.toInt64) (eB : B = bx.toInt64) : B + tm * x.toInt64 = (S * x + bx).toInt64 ∧ -4100000 ≤ (S * x + bx).toInt ∧ (S * x + bx).toInt ≤ 4100000 := by
  subst et
  subst eB
  have u := mul_b (A := 81) (B := 60) hS hx
  have e1 : (S * x).toInt = S.toInt * x.toInt := tI_mul rfl rfl (by omega)
  have e2 : (S * x + bx).toInt = S.toInt * x.toInt + bx.toInt := tI_add e1 rfl (by omega)
  have E1 : (S.toInt64 * x.toInt64).toInt = S.toInt * x.toInt := tJ_mul (Int32.toInt_toInt64 _) (Int32.toInt_toInt64 _) (by omega)
  have E2 : (bx.toInt64 + S.toInt64 * x.toInt64).toInt = bx.toInt + S.toInt * x.toInt := tJ_add (Int32.toInt_toInt64 _) E1 (by omega)
  refine ⟨Int64.toInt_inj.mp (by rw [E2, Int32.toInt_toInt64, e2]; exact Int.add_comm _ _), ?_, ?_⟩
  · rw [e2]
    omega
  · rw [e2]
    omega
theorem fw_L {v fi : Int32} (hv : -4100000 ≤ v.toInt ∧ v.toInt ≤ 4100000) (hf : -99999 ≤ fi.toInt ∧ fi.toInt ≤ 99999) : (v.toInt64 - fi.toInt64).toInt = (v - fi).toInt ∧ -5000000 ≤ (v - fi).toInt ∧ (v - fi).toInt ≤ 5000000 := by
  have e1 : (v - fi).toInt = v.toInt - fi.toInt := tI_sub rfl rfl (by omega)
  have e2 : (v.toInt64 - fi.toInt64).toInt = v.toInt - fi.toInt := tJ_sub (Int32.toInt_toInt64 _) (Int32.toInt_toInt64 _) (by omega)
  rw [e1, e2]
  omega
theorem ag_iff {S bx by_ w fi se gi x y w' fi' se' gi' : Int32} {tm B C : Int64} (hS : -81 ≤ S.toInt ∧ S.toInt ≤ 81) (hb : -4000000 ≤ bx.toInt ∧ bx.toInt ≤ 4000000) (hc : -4000000 ≤ by_.toInt ∧ by_.toInt ≤ 4000000) (hx : -60 ≤ x.toInt ∧ x.toInt ≤ 60) (hy : -60 ≤ y.toInt ∧ y.toInt ≤ 60) (et : tm = S.toInt64) (eB : B = bx.toInt64) (eC : C = by_.toInt64) (hw : w.toInt ≠ 0 → (-99999 ≤ fi.toInt ∧ fi.toInt ≤ 99999) ∧ -99999 ≤ se.toInt ∧ se.toInt ≤ 99999) (e1 : w = w') (e2 : fi = fi') (e3 : se = se') (e4 : gi = gi') : agX S bx by_ w fi se gi x y ↔ agR tm B C w' fi' se' gi' x y := by
  subst e1
  subst e2
  subst e3
  subst e4
  obtain ⟨f1, f2⟩ := fx_L hS hb hx et eB
  obtain ⟨g1, g2⟩ := fx_L hS hc hy et eC
  unfold agR agX
  rw [f1, g1]
  by_cases c : w.toInt = 0
  · exact ⟨fun h => h.elim (fun z => absurd c z.1) Or.inr, fun h => h.elim (fun z => absurd c z.1) Or.inr⟩
  · obtain ⟨q1, q2⟩ := hw c
    obtain ⟨h1, h2⟩ := fw_L f2 q1
    obtain ⟨h3, h4⟩ := fw_L g2 q2
    rw [labs_le (by rw [h1]; omega), labs_le (by rw [h3]; omega), h1, h3]
/-- the first that does not hold, from k on among n -/
def fa (P : Nat → Prop) [DecidablePred P] : Nat → Nat → Int
  | 0, _ => -2
  | n + 1, k => if P k then fa P n (k + 1) else (k : Int)
theorem fa_yes {P : Nat → Prop} [DecidablePred P] {n k : Nat} (h : P k) : fa P (n + 1) k = fa P n (k + 1) := if_pos h
theorem fa_no {P : Nat → Prop} [DecidablePred P] {n k : Nat} (h : ¬ P k) : fa P (n + 1) k = (k : Int) := if_neg h
theorem fa_congr {P Q : Nat → Prop} [DecidablePred P] [DecidablePred Q] : ∀ {n k : Nat}, (∀ j, k ≤ j → j < k + n → (P j ↔ Q j)) → fa P n k = fa Q n k
  | 0, _, _ => rfl
  | n + 1, k, h => by
    have ih := fa_congr (P := P) (Q := Q) (n := n) (k := k + 1) (fun j h1 h2 => h j (by omega) (by omega))
    by_cases c : P k
    · rw [fa_yes c, fa_yes ((h k (Nat.le_refl k) (by omega)).mp c), ih]
    · rw [fa_no c, fa_no (fun q => c ((h k (Nat.le_refl k) (by omega)).mpr q))]
theorem fa_step {P : Nat → Prop} [DecidablePred P] {t i : Int} (h0 : 0 ≤ i) (h1 : i < t) (h : P i.toNat) : fa P (t - i).toNat i.toNat = fa P (t - (i + 1)).toNat (i + 1).toNat := by
  rw [show (t - i).toNat = (t - (i + 1)).toNat + 1 by omega, show (i + 1).toNat = i.toNat + 1 by omega]
  exact fa_yes h
theorem fa_stop {P : Nat → Prop} [DecidablePred P] {t i : Int} (h0 : 0 ≤ i) (h1 : i < t) (h : ¬ P i.toNat) : fa P (t - i).toNat i.toNat = i := by
  rw [show (t - i).toNat = (t - (i + 1)).toNat + 1 by omega, fa_no h]
  omega
theorem fa_end {P : Nat → Prop} [DecidablePred P] {t i : Int} (h1 : t ≤ i) : fa P (t - i).toNat i.toNat = -2 := by
  rw [show (t - i).toNat = 0 by omega]
  rfl
def Eqf (a b : Int) : Prop := a = b
theorem Eqf.eq {a b : Int} (h : Eqf a b) : a = b := h
/-- how many of the first n hold -/
def ct (Q : Nat → Prop) [DecidablePred Q] : Nat → Nat
  | 0 => 0
  | n + 1 => if Q n then ct Q n + 1 else ct Q n
theorem ct_yes {Q : Nat → Prop} [DecidablePred Q] {n : Nat} (h : Q n) : ct Q (n + 1) = ct Q n + 1 := if_pos h
theorem ct_no {Q : Nat → Prop} [DecidablePred Q] {n : Nat} (h : ¬ Q n) : ct Q (n + 1) = ct Q n := if_neg h
theorem ct_le {Q : Nat → Prop} [DecidablePred Q] : ∀ {n : Nat}, ct Q n ≤ n
  | 0 => Nat.le_refl 0
  | n + 1 => by
    have ih := ct_le (Q := Q) (n := n)
    by_cases c : Q n
    · rw [ct_yes c]
      omega
    · rw [ct_no c]
      omega
theorem ct_congr {P Q : Nat → Prop} [DecidablePred P] [DecidablePred Q] : ∀ {n : Nat}, (∀ j, j < n → (P j ↔ Q j)) → ct P n = ct Q n
  | 0, _ => rfl
  | n + 1, h => by
    have ih := ct_congr (n := n) (fun j hj => h j (Nat.lt_succ_of_lt hj))
    by_cases c : P n
    · rw [ct_yes c, ct_yes ((h n (Nat.lt_succ_self n)).mp c), ih]
    · rw [ct_no c, ct_no (fun q => c ((h n (Nat.lt_succ_self n)).mpr q)), ih]
/-- the pull at a place -/
def PX (k : Nat) : Int32 := Int32.ofInt ((k : Int) / 121 - 60)
def PY (k : Nat) : Int32 := Int32.ofInt ((k : Int) % 121 - 60)
theorem PX_of {x : Int32} {k : Nat} (h : x.toInt = (k : Int) / 121 - 60) : x = PX k := by
  unfold PX
  rw [← h, Int32.ofInt_toInt]
theorem PY_of {x : Int32} {k : Nat} (h : x.toInt = (k : Int) % 121 - 60) : x = PY k := by
  unfold PY
  rw [← h, Int32.ofInt_toInt]
theorem P_b {k : Nat} (h : k < 14641) : (-60 ≤ (PX k).toInt ∧ (PX k).toInt ≤ 60) ∧ -60 ≤ (PY k).toInt ∧ (PY k).toInt ≤ 60 := by
  unfold PX PY
  rw [Int32.toInt_ofInt_of_le (by omega) (by omega), Int32.toInt_ofInt_of_le (by omega) (by omega)]
  omega
/-- the bases as the class makes them ready, as the reference does -/
def bsX (ff fo c0 c1 t1 t2 t3 l0 l1 : Int32) : Int32 := ff * (c0 * l0 + c1 * (t1 + l1)) + (fo * t2 + t3)
def bsR (ff fo c0 c1 X0 X1 X2 X3 l0 l1 : Int32) : Int64 := fqL ff fo c0 c1 X0 X1 X2 X3 l0 l1 - ff.toInt64 * c0.toInt64 * X0.toInt64
theorem bs_L {ff fo c0 c1 X0 X1 X2 X3 l0 l1 : Int32} (ha : 0 ≤ ff.toInt ∧ ff.toInt ≤ 9) (ho : 0 ≤ fo.toInt ∧ fo.toInt ≤ 9) (h0 : -9 ≤ c0.toInt ∧ c0.toInt ≤ 9) (h1 : -9 ≤ c1.toInt ∧ c1.toInt ≤ 9) (b0 : -9999 ≤ X0.toInt ∧ X0.toInt ≤ 9999) (b1 : -9999 ≤ X1.toInt ∧ X1.toInt ≤ 9999) (b2 : -9999 ≤ X2.toInt ∧ X2.toInt ≤ 9999) (b3 : -9999 ≤ X3.toInt ∧ X3.toInt ≤ 9999) (k0 : -16236 ≤ l0.toInt ∧ l0.toInt ≤ 16236) (k1 : -16236 ≤ l1.toInt ∧ l1.toInt ≤ 16236) : bsR ff fo c0 c1 X0 X1 X2 X3 l0 l1 = (bsX ff fo c0 c1 X1 X2 X3 l0 l1).toInt64 ∧ -4000000 ≤ (bsX ff fo c0 c1 X1 X2 X3 l0 l1).toInt ∧ (bsX ff fo c0 c1 X1 X2 X3 l0 l1).toInt ≤ 4000000 := by
  obtain ⟨p0, p0a, p0b⟩ := pl_L b0 k0
  obtain ⟨p1, p1a, p1b⟩ := pl_L b1 k1
  have v0 := mul_b (A := 9) (B := 9999) h0 b0
  have w0 := mul_b (A := 9) (B := 16236) h0 k0
  have u1 := mul_b (A := 9) (B := 26235) h1 ⟨p1a, p1b⟩
  have q0 : (c0 * l0).toInt = c0.toInt * l0.toInt := tI_mul rfl rfl (by omega)
  have q1 : (c1 * (X1 + l1)).toInt = c1.toInt * (X1.toInt + l1.toInt) := tI_mul rfl p1 (by omega)
  have d0 : c0.toInt * (X0.toInt + l0.toInt) = c0.toInt * X0.toInt + c0.toInt * l0.toInt := Int.mul_add _ _ _
  have u0 : -236115 ≤ c0.toInt * (X0.toInt + l0.toInt) ∧ c0.toInt * (X0.toInt + l0.toInt) ≤ 236115 := mul_b (A := 9) (B := 26235) h0 ⟨p0a, p0b⟩
  have Q0 : (c0.toInt64 * (X0 + l0).toInt64).toInt = c0.toInt * (X0.toInt + l0.toInt) := tJ_mul (Int32.toInt_toInt64 _) ((Int32.toInt_toInt64 _).trans p0) (by omega)
  have Q1 : (c1.toInt64 * (X1 + l1).toInt64).toInt = c1.toInt * (X1.toInt + l1.toInt) := tJ_mul (Int32.toInt_toInt64 _) ((Int32.toInt_toInt64 _).trans p1) (by omega)
  have s1 : (c0 * l0 + c1 * (X1 + l1)).toInt = c0.toInt * l0.toInt + c1.toInt * (X1.toInt + l1.toInt) := tI_add q0 q1 (by omega)
  have S1 : (0 + c0.toInt64 * (X0 + l0).toInt64).toInt = 0 + c0.toInt * (X0.toInt + l0.toInt) := tJ_add (show (0 : Int64).toInt = 0 from by decide) Q0 (by omega)
  have S2 : (0 + c0.toInt64 * (X0 + l0).toInt64 + c1.toInt64 * (X1 + l1).toInt64).toInt = 0 + c0.toInt * (X0.toInt + l0.toInt) + c1.toInt * (X1.toInt + l1.toInt) := tJ_add S1 Q1 (by omega)
  generalize hv : c0.toInt * X0.toInt = xv at v0 d0
  generalize hw : c0.toInt * l0.toInt = xw at w0 d0 q0 s1
  generalize hu : c1.toInt * (X1.toInt + l1.toInt) = xu at u1 q1 s1 Q1 S2
  rw [d0] at S2
  have m1 := mul_b (A := 9) (B := 382239) (a := ff.toInt) (b := xw + xu) (by omega) (by omega)
  have m2 := mul_b (A := 9) (B := 472230) (a := ff.toInt) (b := 0 + (xv + xw) + xu) (by omega) (by omega)
  have m3 := mul_b (A := 9) (B := 9999) (a := fo.toInt) (b := X2.toInt) (by omega) b2
  have m4 := mul_b (A := 9) (B := 9) (a := ff.toInt) (b := c0.toInt) (by omega) h0
  have m5 := mul_b (A := 81) (B := 9999) (a := ff.toInt * c0.toInt) (b := X0.toInt) (by omega) b0
  have r1 : (ff * (c0 * l0 + c1 * (X1 + l1))).toInt = ff.toInt * (xw + xu) := tI_mul rfl s1 (by omega)
  have r2 : (fo * X2).toInt = fo.toInt * X2.toInt := tI_mul rfl rfl (by omega)
  have R1 : (ff.toInt64 * (0 + c0.toInt64 * (X0 + l0).toInt64 + c1.toInt64 * (X1 + l1).toInt64)).toInt = ff.toInt * (0 + (xv + xw) + xu) := tJ_mul (Int32.toInt_toInt64 _) S2 (by omega)
  have R2 : (fo.toInt64 * X2.toInt64).toInt = fo.toInt * X2.toInt := tJ_mul (Int32.toInt_toInt64 _) (Int32.toInt_toInt64 _) (by omega)
  have R5 : (ff.toInt64 * c0.toInt64).toInt = ff.toInt * c0.toInt := tJ_mul (Int32.toInt_toInt64 _) (Int32.toInt_toInt64 _) (by omega)
  have R6 : (ff.toInt64 * c0.toInt64 * X0.toInt64).toInt = ff.toInt * c0.toInt * X0.toInt := tJ_mul R5 (Int32.toInt_toInt64 _) (by omega)
  have d1 : ff.toInt * (0 + (xv + xw) + xu) = ff.toInt * c0.toInt * X0.toInt + ff.toInt * (xw + xu) := by
    rw [Int.mul_assoc, hv, ← Int.mul_add]
    exact congrArg (fun z => ff.toInt * z) (by omega)
  generalize ff.toInt * (xw + xu) = y0 at m1 r1 d1
  generalize ff.toInt * (0 + (xv + xw) + xu) = y1 at m2 R1 d1
  generalize ff.toInt * c0.toInt * X0.toInt = y2 at m5 R6 d1
  generalize fo.toInt * X2.toInt = y3 at m3 r2 R2
  have r3 : (fo * X2 + X3).toInt = y3 + X3.toInt := tI_add r2 rfl (by omega)
  have r4 : (bsX ff fo c0 c1 X1 X2 X3 l0 l1).toInt = y0 + (y3 + X3.toInt) := tI_add r1 r3 (by omega)
  have R3 : (ff.toInt64 * (0 + c0.toInt64 * (X0 + l0).toInt64 + c1.toInt64 * (X1 + l1).toInt64) + fo.toInt64 * X2.toInt64).toInt = y1 + y3 := tJ_add R1 R2 (by omega)
  have R4 : (fqL ff fo c0 c1 X0 X1 X2 X3 l0 l1).toInt = y1 + y3 + X3.toInt := tJ_add R3 (Int32.toInt_toInt64 _) (by omega)
  have R7 : (bsR ff fo c0 c1 X0 X1 X2 X3 l0 l1).toInt = y1 + y3 + X3.toInt - y2 := tJ_sub R4 R6 (by omega)
  refine ⟨Int64.toInt_inj.mp ?_, ?_, ?_⟩
  · rw [R7, Int32.toInt_toInt64, r4]
    omega
  · rw [r4]
    omega
  · rw [r4]
    omega
theorem sc_L {ff c0 : Int32} (ha : 0 ≤ ff.toInt ∧ ff.toInt ≤ 9) (h0 : -9 ≤ c0.toInt ∧ c0.toInt ≤ 9) : ff.toInt64 * c0.toInt64 = (ff * c0).toInt64 ∧ -81 ≤ (ff * c0).toInt ∧ (ff * c0).toInt ≤ 81 := by
  have u := mul_b (A := 9) (B := 9) (a := ff.toInt) (b := c0.toInt) (by omega) h0
  have e1 : (ff * c0).toInt = ff.toInt * c0.toInt := tI_mul rfl rfl (by omega)
  have e2 : (ff.toInt64 * c0.toInt64).toInt = ff.toInt * c0.toInt := tJ_mul (Int32.toInt_toInt64 _) (Int32.toInt_toInt64 _) (by omega)
  refine ⟨Int64.toInt_inj.mp (by rw [Int32.toInt_toInt64, e1, e2]), ?_, ?_⟩
  · rw [e1]
    omega
  · rw [e1]
    omega
/-- a trial's scale and bases: class, reference -/
def SCx (ff cr sp : Nat → Int32) (j : Nat) : Int32 := ff (sp j).toNatClampNeg * cr 0
def BXx (a : Nat) (ff fo cr th sp le : Nat → Int32) (j : Nat) : Int32 := bsX (ff (sp j).toNatClampNeg) (fo (sp j).toNatClampNeg) (cr 0) (cr 1) (th (2 + a)) (th (4 + a)) (th (6 + a)) (le (4 * j + a)) (le (4 * j + 2 + a))
def SCr (ff cr sp : Nat → Int32) (j : Nat) : Int64 := (ff (sp j).toNatClampNeg).toInt64 * (cr 0).toInt64
def BXr (a : Nat) (ff fo cr X sp le : Nat → Int32) (j : Nat) : Int64 := bsR (ff (sp j).toNatClampNeg) (fo (sp j).toNatClampNeg) (cr 0) (cr 1) (X 0) (X 1) (X 2) (X 3) (le (4 * j + a)) (le (4 * j + 2 + a))
/-- whether a trial agrees with a pull -/
abbrev AGx (ff fo cr th : Nat → Int32) (F : Nat → Nat → Int32) (x y : Int32) (j : Nat) : Prop := agX (SCx ff cr (F 0) j) (BXx 0 ff fo cr th (F 0) (F 5) j) (BXx 1 ff fo cr th (F 0) (F 5) j) (F 1 j) (F 2 j) (F 3 j) (F 4 j) x y
abbrev AGr (ff fo cr X Y : Nat → Int32) (H : Nat → Nat → Int32) (x y : Int32) (j : Nat) : Prop := agR (SCr ff cr (H 0) j) (BXr 0 ff fo cr X (H 0) (H 5) j) (BXr 1 ff fo cr Y (H 0) (H 5) j) (H 1 j) (H 2 j) (H 3 j) (H 4 j) x y
theorem AG_iff {t s : Int} {ff fo cr th gf go gr X Y : Nat → Int32} {F H : Nat → Nat → Int32} {x y : Int32} (e1 : EH s ff gf) (e2 : EH s fo go) (e3 : ∀ j : Nat, j < 4 → cr j = gr j) (e4 : pr4 th X Y) (b1 : ∀ j : Nat, (j : Int) < s → 0 ≤ (ff j).toInt ∧ (ff j).toInt ≤ 9) (b2 : ∀ j : Nat, (j : Int) < s → 0 ≤ (fo j).toInt ∧ (fo j).toInt ≤ 9) (b3 : ∀ j : Nat, j < 4 → -9 ≤ (cr j).toInt ∧ (cr j).toInt ≤ 9) (b4 : b8 th) (B : TrB F t s) (E : TrE F H t) (hx : -60 ≤ x.toInt ∧ x.toInt ≤ 60) (hy : -60 ≤ y.toInt ∧ y.toInt ≤ 60) {j : Nat} (hj : (j : Int) < t) : AGx ff fo cr th F x y j ↔ AGr gf go gr X Y H x y j := by
  obtain ⟨⟨s0, s1⟩, w01, wb, g9, lb⟩ := B j hj
  obtain ⟨E1, E2⟩ := E j hj
  have hs : (((F 0 j).toNatClampNeg : Nat) : Int) < s := (show (((F 0 j).toInt.toNat : Nat) : Int) < s by omega)
  have L0 := lb 0 (by decide)
  have L1 := lb 1 (by decide)
  have L2 := lb 2 (by decide)
  have L3 := lb 3 (by decide)
  have S := sc_L (b1 _ hs) (b3 0 (by decide))
  have BX := bs_L (b1 _ hs) (b2 _ hs) (b3 0 (by decide)) (b3 1 (by decide)) (b4 0 (by decide)) (b4 2 (by decide)) (b4 4 (by decide)) (b4 6 (by decide)) L0 L2
  have BY := bs_L (b1 _ hs) (b2 _ hs) (b3 0 (by decide)) (b3 1 (by decide)) (b4 1 (by decide)) (b4 3 (by decide)) (b4 5 (by decide)) (b4 7 (by decide)) L1 L3
  unfold AGx AGr
  refine ag_iff S.2 BX.2 BY.2 hx hy ?_ ?_ ?_ wb (E1 1 (by decide)) (E1 2 (by decide)) (E1 3 (by decide)) (E1 4 (by decide))
  · unfold SCr SCx
    rw [← E1 0 (by decide), ← e1 _ hs, ← e3 0 (by decide)]
    exact S.1
  · unfold BXr
    rw [← E1 0 (by decide), ← e1 _ hs, ← e2 _ hs, ← e3 0 (by decide), ← e3 1 (by decide), ← (e4 0 (by decide)).1, ← (e4 1 (by decide)).1, ← (e4 2 (by decide)).1, ← (e4 3 (by decide)).1, ← E2 0 (by decide), show 4 * j + 2 + 0 = 4 * j + 2 from rfl, ← E2 2 (by decide)]
    exact BX.1
  · unfold BXr
    rw [← E1 0 (by decide), ← e1 _ hs, ← e2 _ hs, ← e3 0 (by decide), ← e3 1 (by decide), ← (e4 0 (by decide)).2, ← (e4 1 (by decide)).2, ← (e4 2 (by decide)).2, ← (e4 3 (by decide)).2, ← E2 1 (by decide), show 4 * j + 2 + 1 = 4 * j + 3 from rfl, ← E2 3 (by decide)]
    exact BY.1
theorem fa_prep {t : Int} {S bx by_ ff fo cr th : Nat → Int32} {F : Nat → Nat → Int32} {x y : Int32} (h : ∀ j : Nat, (j : Int) < t → S j = SCx ff cr (F 0) j ∧ bx j = BXx 0 ff fo cr th (F 0) (F 5) j ∧ by_ j = BXx 1 ff fo cr th (F 0) (F 5) j) : fa (fun j => agX (S j) (bx j) (by_ j) (F 1 j) (F 2 j) (F 3 j) (F 4 j) x y) t.toNat 0 = fa (AGx ff fo cr th F x y) t.toNat 0 := fa_congr (fun j _ hj => by
  obtain ⟨a, b, c⟩ := h j (by omega)
  show agX (S j) (bx j) (by_ j) (F 1 j) (F 2 j) (F 3 j) (F 4 j) x y ↔ agX (SCx ff cr (F 0) j) (BXx 0 ff fo cr th (F 0) (F 5) j) (BXx 1 ff fo cr th (F 0) (F 5) j) (F 1 j) (F 2 j) (F 3 j) (F 4 j) x y
  rw [a, b, c])
theorem fa_prepR {t : Int} {S bx by_ : Nat → Int64} {ff fo cr X Y : Nat → Int32} {F : Nat → Nat → Int32} {x y : Int32} (h : ∀ j : Nat, (j : Int) < t → S j = SCr ff cr (F 0) j ∧ bx j = BXr 0 ff fo cr X (F 0) (F 5) j ∧ by_ j = BXr 1 ff fo cr Y (F 0) (F 5) j) : fa (fun j => agR (S j) (bx j) (by_ j) (F 1 j) (F 2 j) (F 3 j) (F 4 j) x y) t.toNat 0 = fa (AGr ff fo cr X Y F x y) t.toNat 0 := fa_congr (fun j _ hj => by
  obtain ⟨a, b, c⟩ := h j (by omega)
  show agR (S j) (bx j) (by_ j) (F 1 j) (F 2 j) (F 3 j) (F 4 j) x y ↔ agR (SCr ff cr (F 0) j) (BXr 0 ff fo cr X (F 0) (F 5) j) (BXr 1 ff fo cr Y (F 0) (F 5) j) (F 1 j) (F 2 j) (F 3 j) (F 4 j) x y
  rw [a, b, c])
theorem ix4 {i : Int32} (h : 0 ≤ i.toInt ∧ i.toInt ≤ 11) : (4 * i).toNatClampNeg = 4 * i.toInt.toNat ∧ (4 * i + 1).toNatClampNeg = 4 * i.toInt.toNat + 1 ∧ (4 * i + 2).toNatClampNeg = 4 * i.toInt.toNat + 2 ∧ (4 * i + 3).toNatClampNeg = 4 * i.toInt.toNat + 3 := by
  have e : (4 * i).toInt = 4 * i.toInt := tI_mul (show (4 : Int32).toInt = 4 from by decide) rfl (by omega)
  have e1 : (4 * i + 1).toInt = 4 * i.toInt + 1 := tI_add e (show (1 : Int32).toInt = 1 from by decide) (by omega)
  have e2 : (4 * i + 2).toInt = 4 * i.toInt + 2 := tI_add e (show (2 : Int32).toInt = 2 from by decide) (by omega)
  have e3 : (4 * i + 3).toInt = 4 * i.toInt + 3 := tI_add e (show (3 : Int32).toInt = 3 from by decide) (by omega)
  exact ⟨(congrArg Int.toNat e).trans (by omega), (congrArg Int.toNat e1).trans (by omega), (congrArg Int.toNat e2).trans (by omega), (congrArg Int.toNat e3).trans (by omega)⟩
theorem st3 {A B C a b c : Nat → Int32} {i x y z : Int32} (h0 : 0 ≤ i.toInt) (h : ∀ j : Nat, (j : Int) < i.toInt → A j = a j ∧ B j = b j ∧ C j = c j) (hx : x = a i.toInt.toNat) (hy : y = b i.toInt.toNat) (hz : z = c i.toInt.toNat) : ∀ j : Nat, (j : Int) < i.toInt + 1 → upd A i.toNatClampNeg x j = a j ∧ upd B i.toNatClampNeg y j = b j ∧ upd C i.toNatClampNeg z j = c j := fun j hj => ⟨st_step h0 (fun j hj => (h j hj).1) hx j hj, st_step h0 (fun j hj => (h j hj).2.1) hy j hj, st_step h0 (fun j hj => (h j hj).2.2) hz j hj⟩
theorem stL {g F : Nat → Int64} {i : Int32} {x : Int64} (h0 : 0 ≤ i.toInt) (hg : ∀ j : Nat, (j : Int) < i.toInt → g j = F j) (hx : x = F i.toInt.toNat) : ∀ j : Nat, (j : Int) < i.toInt + 1 → vp_updL g i.toNatClampNeg x j = F j := by
  intro j hj
  unfold vp_updL
  by_cases e : j = i.toInt.toNat
  · subst e
    exact (if_pos (show i.toInt.toNat = i.toNatClampNeg from rfl)).trans hx
  · exact (if_neg (show ¬ j = i.toNatClampNeg from e)).trans (hg j (by omega))
theorem stL3 {A B C a b c : Nat → Int64} {i : Int32} {x y z : Int64} (h0 : 0 ≤ i.toInt) (h : ∀ j : Nat, (j : Int) < i.toInt → A j = a j ∧ B j = b j ∧ C j = c j) (hx : x = a i.toInt.toNat) (hy : y = b i.toInt.toNat) (hz : z = c i.toInt.toNat) : ∀ j : Nat, (j : Int) < i.toInt + 1 → vp_updL A i.toNatClampNeg x j = a j ∧ vp_updL B i.toNatClampNeg y j = b j ∧ vp_updL C i.toNatClampNeg z j = c j := fun j hj => ⟨stL h0 (fun j hj => (h j hj).1) hx j hj, stL h0 (fun j hj => (h j hj).2.1) hy j hj, stL h0 (fun j hj => (h j hj).2.2) hz j hj⟩
def mJudge (x y f : Int) : Int := if (-60 ≤ x ∧ x ≤ 60) ∧ -60 ≤ y ∧ y ≤ 60 then f else -1
theorem mJudge_no {x y f : Int} (q : ¬ ((-60 ≤ x ∧ x ≤ 60) ∧ -60 ≤ y ∧ y ≤ 60)) : mJudge x y f = -1 := if_neg q
theorem mJudge_yes {x y f : Int} (q : (-60 ≤ x ∧ x ≤ 60) ∧ -60 ≤ y ∧ y ≤ 60) : mJudge x y f = f := if_pos q
theorem has0 {k : Int32} : ((0 : Int32) >>> (k &&& 31)) &&& 1 = 0 := by
  rw [Int32.zero_shiftRight]
  decide
section ZLY
variable {p : Program} {l : Launch} {e : Env} {R : Room} {s : State} {m : MethodId} {args : Array Value} {below : List Frame} {meth : Method} {c : Code} {nL : Nat} {G : KG} {A : Nat → Prop} {Q : State → Prop} {cc : ByteArray} {own : String} {ret : Option FieldType} {nm : String}
variable {pc : Nat} {rest : List Value} {ws : va_W} {kc ks : Nat}
theorem z_labs2 (X : ZC p s m args meth c cc nL own G A ret nm) {lv : List (Nat × Value)} {x : Int64} {idx : Nat} (h1 : Cond.methodLink own idx Lib.MathLoose.abs_long.x ∈ BIG) (h2 : Cond.static Lib.MathLoose.abs_long.x ∈ BIG) (h3 : Cond.initialized "java/lang/Math" ∈ BIG) (h4 : Cond.code Lib.MathLoose.abs_long.x Lib.MathLoose.abs_long.code 2 (some .long) ∈ BIG) (hR : 1 ≤ R.frames ∧ (rest.map fun v => v.category).sum + 13 ≤ R.locals) (hf : kc ≤ R.cells ∧ ks ≤ R.slots) (hdg : decode cc pc = .ok (.invokestatic idx, 3)) {v : Int64} (hv : (if 0 < x then x else -x) = v) (kz : Z p l e R s m args below meth c nL G A Q (pc + 3) lv (.long v :: rest) ws kc ks) : Z p l e R s m args below meth c nL G A Q pc lv (.long x :: rest) ws kc ks := by
  subst hv
  exact fun H locs ls hP hD hS hl => va_mabs_long X.1 X.2.1 (X.2.2.1.trans hl.1.symm) X.2.2.2.1 (X.2.2.2.2.1 _ h1) (X.2.2.2.2.1 _ h2) (X.2.2.2.2.1 _ h3) (X.2.2.2.2.1 _ h4) hR.1 hR.2 hf.1 hf.2 hdg (kz H locs ls hP hD hS hl)
theorem z_lmax2 (X : ZC p s m args meth c cc nL own G A ret nm) {lv : List (Nat × Value)} {x y : Int64} {idx : Nat} (h1 : Cond.methodLink own idx Lib.MathLoose.max_long.x ∈ BIG) (h2 : Cond.static Lib.MathLoose.max_long.x ∈ BIG) (h3 : Cond.initialized "java/lang/Math" ∈ BIG) (h4 : Cond.code Lib.MathLoose.max_long.x Lib.MathLoose.max_long.code 4 (some .long) ∈ BIG) (hR : 1 ≤ R.frames ∧ (rest.map fun v => v.category).sum + 15 ≤ R.locals) (hf : kc ≤ R.cells ∧ ks ≤ R.slots) (hdg : decode cc pc = .ok (.invokestatic idx, 3)) {v : Int64} (hv : (if y < x then x else y) = v) (kz : Z p l e R s m args below meth c nL G A Q (pc + 3) lv (.long v :: rest) ws kc ks) : Z p l e R s m args below meth c nL G A Q pc lv (.long y :: .long x :: rest) ws kc ks := by
  subst hv
  exact fun H locs ls hP hD hS hl => va_mmax_long X.1 X.2.1 (X.2.2.1.trans hl.1.symm) X.2.2.2.1 (X.2.2.2.2.1 _ h1) (X.2.2.2.2.1 _ h2) (X.2.2.2.2.1 _ h3) (X.2.2.2.2.1 _ h4) hR.1 hR.2 hf.1 hf.2 hdg (kz H locs ls hP hD hS hl)
end ZLY
theorem tJ_max2 {x y : Int64} {a b : Int} (ha : x.toInt = a) (hb : y.toInt = b) : (if y < x then x else y).toInt = max a b := by
  subst ha; subst hb
  by_cases h : y < x
  · rw [if_pos h]; have := Int64.lt_iff_toInt_lt.mp h; omega
  · rw [if_neg h]; have := Int.not_lt.mp (fun q => h (Int64.lt_iff_toInt_lt.mpr q)); omega
theorem dy_X10_sizeOf_7 : decode cX10_sizeOf 7 = .ok (.lreturn, 1) := by decide +kernel
abbrev by_X10_sizeOf_0_7 : ZB := [(.lload_n 0, .null), (.lload_n 0, .null), (.lmul, .null), (.lload_n 2, .null), (.lload_n 2, .null), (.lmul, .null), (.ladd, .null)]
theorem ky_X10_sizeOf_0_7 : zchk cX10_sizeOf by_X10_sizeOf_0_7 0 = true ∧ zpc by_X10_sizeOf_0_7 0 = 7 := ⟨by decide +kernel, rfl⟩
set_option maxHeartbeats 4000000 in
set_option maxRecDepth 100000 in
theorem cy_X10_sizeOfG (l : Launch) (G : KG) (xq : Int64) (yq : Int64) : Ct l G yX10_sizeOf cX10_sizeOf 4 (some .long) { frames := 0, cells := 0, slots := 0, locals := 0 } [.long xq, .long yq] [] (fun r w1 => ∃ (rz : Int64), (rz = szL xq yq) ∧ r = some (.long rz) ∧ w1 = []) := by
  refine ct_of [(0, .long xq), (2, .long yq)] (by decide) (Nat.le_of_ble_eq_true rfl) rfl ?_
  intro p0 e0 s0 m0 args0 below0 meth0 c0 A X
  refine z_run X by_X10_sizeOf_0_7 ky_X10_sizeOf_0_7 (lv' := [(0, .long xq), (2, .long yq)]) (st' := [.long ((xq * xq) + (yq * yq))]) rfl ?_
  exact z_lret X rfl dy_X10_sizeOf_7 (Nat.le_of_ble_eq_true rfl) (Nat.le_of_ble_eq_true rfl) ⟨((xq * xq) + (yq * yq)), rfl, rfl, rfl⟩

theorem dy_X11_size_7 : decode cX11_size 7 = .ok (.lreturn, 1) := by decide +kernel
abbrev by_X11_size_0_7 : ZB := [(.lload_n 0, .null), (.lload_n 0, .null), (.lmul, .null), (.lload_n 2, .null), (.lload_n 2, .null), (.lmul, .null), (.ladd, .null)]
theorem ky_X11_size_0_7 : zchk cX11_size by_X11_size_0_7 0 = true ∧ zpc by_X11_size_0_7 0 = 7 := ⟨by decide +kernel, rfl⟩
set_option maxHeartbeats 4000000 in
set_option maxRecDepth 100000 in
theorem cy_X11_sizeG (l : Launch) (G : KG) (xq : Int64) (yq : Int64) : Ct l G yX11_size cX11_size 4 (some .long) { frames := 0, cells := 0, slots := 0, locals := 0 } [.long xq, .long yq] [] (fun r w1 => ∃ (rz : Int64), (rz = szL xq yq) ∧ r = some (.long rz) ∧ w1 = []) := by
  refine ct_of [(0, .long xq), (2, .long yq)] (by decide) (Nat.le_of_ble_eq_true rfl) rfl ?_
  intro p0 e0 s0 m0 args0 below0 meth0 c0 A X
  refine z_run X by_X11_size_0_7 ky_X11_size_0_7 (lv' := [(0, .long xq), (2, .long yq)]) (st' := [.long ((xq * xq) + (yq * yq))]) rfl ?_
  exact z_lret X rfl dy_X11_size_7 (Nat.le_of_ble_eq_true rfl) (Nat.le_of_ble_eq_true rfl) ⟨((xq * xq) + (yq * yq)), rfl, rfl, rfl⟩

theorem dy_X10_isWithin_3 : decode cX10_isWithin 3 = .ok (.if_icmp .lt 12, 3) := by decide +kernel
theorem dy_X10_isWithin_16 : decode cX10_isWithin 16 = .ok (.ireturn, 1) := by decide +kernel
theorem dy_X10_isWithin_8 : decode cX10_isWithin 8 = .ok (.if_icmp .gt 7, 3) := by decide +kernel
theorem dy_X10_isWithin_12 : decode cX10_isWithin 12 = .ok (.goto 4, 3) := by decide +kernel
abbrev by_X10_isWithin_0_3 : ZB := [(.iload_n 0, .null), (.iload_n 1, .null), (.ineg, .null)]
theorem ky_X10_isWithin_0_3 : zchk cX10_isWithin by_X10_isWithin_0_3 0 = true ∧ zpc by_X10_isWithin_0_3 0 = 3 := ⟨by decide +kernel, rfl⟩
abbrev by_X10_isWithin_15_16 : ZB := [(.iconst 0, .int 0)]
theorem ky_X10_isWithin_15_16 : zchk cX10_isWithin by_X10_isWithin_15_16 15 = true ∧ zpc by_X10_isWithin_15_16 15 = 16 := ⟨by decide +kernel, rfl⟩
abbrev by_X10_isWithin_6_8 : ZB := [(.iload_n 0, .null), (.iload_n 1, .null)]
theorem ky_X10_isWithin_6_8 : zchk cX10_isWithin by_X10_isWithin_6_8 6 = true ∧ zpc by_X10_isWithin_6_8 6 = 8 := ⟨by decide +kernel, rfl⟩
abbrev by_X10_isWithin_11_12 : ZB := [(.iconst 1, .int 1)]
theorem ky_X10_isWithin_11_12 : zchk cX10_isWithin by_X10_isWithin_11_12 11 = true ∧ zpc by_X10_isWithin_11_12 11 = 12 := ⟨by decide +kernel, rfl⟩
set_option maxHeartbeats 4000000 in
set_option maxRecDepth 100000 in
theorem cy_X10_isWithinG (l : Launch) (G : KG) (a : Int32) (b : Int32) (bi : Int) (hb : b.toInt = bi) (hb0 : 0 ≤ bi ∧ bi ≤ 1000000) : Ct l G yX10_isWithin cX10_isWithin 2 (some .boolean) { frames := 0, cells := 0, slots := 0, locals := 0 } [.int a, .int b] [] (fun r w1 => r = some (.int (zb (decide (-bi ≤ a.toInt ∧ a.toInt ≤ bi)))) ∧ w1 = []) := by
  refine ct_of [(0, .int a), (1, .int b)] (by decide) (Nat.le_of_ble_eq_true rfl) rfl ?_
  intro p0 e0 s0 m0 args0 below0 meth0 c0 A X
  refine z_run X by_X10_isWithin_0_3 ky_X10_isWithin_0_3 (lv' := [(0, .int a), (1, .int b)]) (st' := [.int (-b), .int a]) rfl ?_
  refine zc_lt X dy_X10_isWithin_3 (tgt := 15) (by decide) (a := a.toInt) (b := (-bi)) rfl (tI_neg hb (by omega)) (fun c3_1 => ?_) (fun c3_1 => ?_)
  ·
    refine z_run X by_X10_isWithin_15_16 ky_X10_isWithin_15_16 (lv' := [(0, .int a), (1, .int b)]) (st' := [.int 0]) rfl ?_
    exact z_zret X rfl rfl dy_X10_isWithin_16 (Nat.le_of_ble_eq_true rfl) (Nat.le_of_ble_eq_true rfl) ⟨(congrArg (fun z => some (Value.int z)) (zb_f (by omega)).symm), rfl⟩
  ·
    refine z_run X by_X10_isWithin_6_8 ky_X10_isWithin_6_8 (lv' := [(0, .int a), (1, .int b)]) (st' := [.int b, .int a]) rfl ?_
    refine zc_gt X dy_X10_isWithin_8 (tgt := 15) (by decide) (a := a.toInt) (b := bi) rfl hb (fun c8_2 => ?_) (fun c8_2 => ?_)
    ·
      refine z_run X by_X10_isWithin_15_16 ky_X10_isWithin_15_16 (lv' := [(0, .int a), (1, .int b)]) (st' := [.int 0]) rfl ?_
      exact z_zret X rfl rfl dy_X10_isWithin_16 (Nat.le_of_ble_eq_true rfl) (Nat.le_of_ble_eq_true rfl) ⟨(congrArg (fun z => some (Value.int z)) (zb_f (by omega)).symm), rfl⟩
    ·
      refine z_run X by_X10_isWithin_11_12 ky_X10_isWithin_11_12 (lv' := [(0, .int a), (1, .int b)]) (st' := [.int 1]) rfl ?_
      refine z_goto X dy_X10_isWithin_12 (tgt := 16) (by decide) ?_
      exact z_zret X rfl rfl dy_X10_isWithin_16 (Nat.le_of_ble_eq_true rfl) (Nat.le_of_ble_eq_true rfl) ⟨(congrArg (fun z => some (Value.int z)) (zb_t (by omega)).symm), rfl⟩

theorem dy_X9_agrees_1 : decode cX9_agrees 1 = .ok (.getfield 31, 3) := by decide +kernel
theorem dy_X9_agrees_5 : decode cX9_agrees 5 = .ok (.iaload, 1) := by decide +kernel
theorem dy_X9_agrees_9 : decode cX9_agrees 9 = .ok (.getfield 34, 3) := by decide +kernel
theorem dy_X9_agrees_13 : decode cX9_agrees 13 = .ok (.iaload, 1) := by decide +kernel
theorem dy_X9_agrees_18 : decode cX9_agrees 18 = .ok (.getfield 31, 3) := by decide +kernel
theorem dy_X9_agrees_22 : decode cX9_agrees 22 = .ok (.iaload, 1) := by decide +kernel
theorem dy_X9_agrees_26 : decode cX9_agrees 26 = .ok (.getfield 37, 3) := by decide +kernel
theorem dy_X9_agrees_30 : decode cX9_agrees 30 = .ok (.iaload, 1) := by decide +kernel
theorem dy_X9_agrees_35 : decode cX9_agrees 35 = .ok (.getfield 15, 3) := by decide +kernel
theorem dy_X9_agrees_39 : decode cX9_agrees 39 = .ok (.baload, 1) := by decide +kernel
theorem dy_X9_agrees_40 : decode cX9_agrees 40 = .ok (.ifCond .eq 51, 3) := by decide +kernel
theorem dy_X9_agrees_97 : decode cX9_agrees 97 = .ok (.invokestatic 58, 3) := by decide +kernel
theorem dy_X9_agrees_105 : decode cX9_agrees 105 = .ok (.getfield 19, 3) := by decide +kernel
theorem dy_X9_agrees_109 : decode cX9_agrees 109 = .ok (.iaload, 1) := by decide +kernel
theorem dy_X9_agrees_111 : decode cX9_agrees 111 = .ok (.lcmp, 1) := by decide +kernel
theorem dy_X9_agrees_112 : decode cX9_agrees 112 = .ok (.ifCond .lt 20, 3) := by decide +kernel
theorem dy_X9_agrees_133 : decode cX9_agrees 133 = .ok (.ireturn, 1) := by decide +kernel
theorem dy_X9_agrees_118 : decode cX9_agrees 118 = .ok (.getfield 22, 3) := by decide +kernel
theorem dy_X9_agrees_122 : decode cX9_agrees 122 = .ok (.iaload, 1) := by decide +kernel
theorem dy_X9_agrees_124 : decode cX9_agrees 124 = .ok (.lcmp, 1) := by decide +kernel
theorem dy_X9_agrees_125 : decode cX9_agrees 125 = .ok (.ifCond .gt 7, 3) := by decide +kernel
theorem dy_X9_agrees_129 : decode cX9_agrees 129 = .ok (.goto 4, 3) := by decide +kernel
theorem dy_X9_agrees_46 : decode cX9_agrees 46 = .ok (.getfield 19, 3) := by decide +kernel
theorem dy_X9_agrees_50 : decode cX9_agrees 50 = .ok (.iaload, 1) := by decide +kernel
theorem dy_X9_agrees_53 : decode cX9_agrees 53 = .ok (.getfield 25, 3) := by decide +kernel
theorem dy_X9_agrees_57 : decode cX9_agrees 57 = .ok (.iaload, 1) := by decide +kernel
theorem dy_X9_agrees_58 : decode cX9_agrees 58 = .ok (.invokestatic 54, 3) := by decide +kernel
theorem dy_X9_agrees_61 : decode cX9_agrees 61 = .ok (.ifCond .eq 28, 3) := by decide +kernel
theorem dy_X9_agrees_90 : decode cX9_agrees 90 = .ok (.ireturn, 1) := by decide +kernel
theorem dy_X9_agrees_67 : decode cX9_agrees 67 = .ok (.getfield 22, 3) := by decide +kernel
theorem dy_X9_agrees_71 : decode cX9_agrees 71 = .ok (.iaload, 1) := by decide +kernel
theorem dy_X9_agrees_74 : decode cX9_agrees 74 = .ok (.getfield 25, 3) := by decide +kernel
theorem dy_X9_agrees_78 : decode cX9_agrees 78 = .ok (.iaload, 1) := by decide +kernel
theorem dy_X9_agrees_79 : decode cX9_agrees 79 = .ok (.invokestatic 54, 3) := by decide +kernel
theorem dy_X9_agrees_82 : decode cX9_agrees 82 = .ok (.ifCond .eq 7, 3) := by decide +kernel
theorem dy_X9_agrees_86 : decode cX9_agrees 86 = .ok (.goto 4, 3) := by decide +kernel
abbrev by_X9_agrees_0_1 : ZB := [(.aload_n 0, .null)]
theorem ky_X9_agrees_0_1 : zchk cX9_agrees by_X9_agrees_0_1 0 = true ∧ zpc by_X9_agrees_0_1 0 = 1 := ⟨by decide +kernel, rfl⟩
abbrev by_X9_agrees_4_5 : ZB := [(.iload_n 1, .null)]
theorem ky_X9_agrees_4_5 : zchk cX9_agrees by_X9_agrees_4_5 4 = true ∧ zpc by_X9_agrees_4_5 4 = 5 := ⟨by decide +kernel, rfl⟩
abbrev by_X9_agrees_6_9 : ZB := [(.iload_n 2, .null), (.imul, .null), (.aload_n 0, .null)]
theorem ky_X9_agrees_6_9 : zchk cX9_agrees by_X9_agrees_6_9 6 = true ∧ zpc by_X9_agrees_6_9 6 = 9 := ⟨by decide +kernel, rfl⟩
abbrev by_X9_agrees_12_13 : ZB := [(.iload_n 1, .null)]
theorem ky_X9_agrees_12_13 : zchk cX9_agrees by_X9_agrees_12_13 12 = true ∧ zpc by_X9_agrees_12_13 12 = 13 := ⟨by decide +kernel, rfl⟩
abbrev by_X9_agrees_14_18 : ZB := [(.iadd, .null), (.istore 4, .null), (.aload_n 0, .null)]
theorem ky_X9_agrees_14_18 : zchk cX9_agrees by_X9_agrees_14_18 14 = true ∧ zpc by_X9_agrees_14_18 14 = 18 := ⟨by decide +kernel, rfl⟩
abbrev by_X9_agrees_21_22 : ZB := [(.iload_n 1, .null)]
theorem ky_X9_agrees_21_22 : zchk cX9_agrees by_X9_agrees_21_22 21 = true ∧ zpc by_X9_agrees_21_22 21 = 22 := ⟨by decide +kernel, rfl⟩
abbrev by_X9_agrees_23_26 : ZB := [(.iload_n 3, .null), (.imul, .null), (.aload_n 0, .null)]
theorem ky_X9_agrees_23_26 : zchk cX9_agrees by_X9_agrees_23_26 23 = true ∧ zpc by_X9_agrees_23_26 23 = 26 := ⟨by decide +kernel, rfl⟩
abbrev by_X9_agrees_29_30 : ZB := [(.iload_n 1, .null)]
theorem ky_X9_agrees_29_30 : zchk cX9_agrees by_X9_agrees_29_30 29 = true ∧ zpc by_X9_agrees_29_30 29 = 30 := ⟨by decide +kernel, rfl⟩
abbrev by_X9_agrees_31_35 : ZB := [(.iadd, .null), (.istore 5, .null), (.aload_n 0, .null)]
theorem ky_X9_agrees_31_35 : zchk cX9_agrees by_X9_agrees_31_35 31 = true ∧ zpc by_X9_agrees_31_35 31 = 35 := ⟨by decide +kernel, rfl⟩
abbrev by_X9_agrees_38_39 : ZB := [(.iload_n 1, .null)]
theorem ky_X9_agrees_38_39 : zchk cX9_agrees by_X9_agrees_38_39 38 = true ∧ zpc by_X9_agrees_38_39 38 = 39 := ⟨by decide +kernel, rfl⟩
abbrev by_X9_agrees_91_97 : ZB := [(.iload 4, .null), (.i2l, .null), (.iload 5, .null), (.i2l, .null)]
theorem ky_X9_agrees_91_97 : zchk cX9_agrees by_X9_agrees_91_97 91 = true ∧ zpc by_X9_agrees_91_97 91 = 97 := ⟨by decide +kernel, rfl⟩
abbrev by_X9_agrees_100_105 : ZB := [(.lstore 6, .null), (.lload 6, .null), (.aload_n 0, .null)]
theorem ky_X9_agrees_100_105 : zchk cX9_agrees by_X9_agrees_100_105 100 = true ∧ zpc by_X9_agrees_100_105 100 = 105 := ⟨by decide +kernel, rfl⟩
abbrev by_X9_agrees_108_109 : ZB := [(.iload_n 1, .null)]
theorem ky_X9_agrees_108_109 : zchk cX9_agrees by_X9_agrees_108_109 108 = true ∧ zpc by_X9_agrees_108_109 108 = 109 := ⟨by decide +kernel, rfl⟩
abbrev by_X9_agrees_110_111 : ZB := [(.i2l, .null)]
theorem ky_X9_agrees_110_111 : zchk cX9_agrees by_X9_agrees_110_111 110 = true ∧ zpc by_X9_agrees_110_111 110 = 111 := ⟨by decide +kernel, rfl⟩
abbrev by_X9_agrees_132_133 : ZB := [(.iconst 0, .int 0)]
theorem ky_X9_agrees_132_133 : zchk cX9_agrees by_X9_agrees_132_133 132 = true ∧ zpc by_X9_agrees_132_133 132 = 133 := ⟨by decide +kernel, rfl⟩
abbrev by_X9_agrees_115_118 : ZB := [(.lload 6, .null), (.aload_n 0, .null)]
theorem ky_X9_agrees_115_118 : zchk cX9_agrees by_X9_agrees_115_118 115 = true ∧ zpc by_X9_agrees_115_118 115 = 118 := ⟨by decide +kernel, rfl⟩
abbrev by_X9_agrees_121_122 : ZB := [(.iload_n 1, .null)]
theorem ky_X9_agrees_121_122 : zchk cX9_agrees by_X9_agrees_121_122 121 = true ∧ zpc by_X9_agrees_121_122 121 = 122 := ⟨by decide +kernel, rfl⟩
abbrev by_X9_agrees_123_124 : ZB := [(.i2l, .null)]
theorem ky_X9_agrees_123_124 : zchk cX9_agrees by_X9_agrees_123_124 123 = true ∧ zpc by_X9_agrees_123_124 123 = 124 := ⟨by decide +kernel, rfl⟩
abbrev by_X9_agrees_128_129 : ZB := [(.iconst 1, .int 1)]
theorem ky_X9_agrees_128_129 : zchk cX9_agrees by_X9_agrees_128_129 128 = true ∧ zpc by_X9_agrees_128_129 128 = 129 := ⟨by decide +kernel, rfl⟩
abbrev by_X9_agrees_43_46 : ZB := [(.iload 4, .null), (.aload_n 0, .null)]
theorem ky_X9_agrees_43_46 : zchk cX9_agrees by_X9_agrees_43_46 43 = true ∧ zpc by_X9_agrees_43_46 43 = 46 := ⟨by decide +kernel, rfl⟩
abbrev by_X9_agrees_49_50 : ZB := [(.iload_n 1, .null)]
theorem ky_X9_agrees_49_50 : zchk cX9_agrees by_X9_agrees_49_50 49 = true ∧ zpc by_X9_agrees_49_50 49 = 50 := ⟨by decide +kernel, rfl⟩
abbrev by_X9_agrees_51_53 : ZB := [(.isub, .null), (.aload_n 0, .null)]
theorem ky_X9_agrees_51_53 : zchk cX9_agrees by_X9_agrees_51_53 51 = true ∧ zpc by_X9_agrees_51_53 51 = 53 := ⟨by decide +kernel, rfl⟩
abbrev by_X9_agrees_56_57 : ZB := [(.iload_n 1, .null)]
theorem ky_X9_agrees_56_57 : zchk cX9_agrees by_X9_agrees_56_57 56 = true ∧ zpc by_X9_agrees_56_57 56 = 57 := ⟨by decide +kernel, rfl⟩
abbrev by_X9_agrees_89_90 : ZB := [(.iconst 0, .int 0)]
theorem ky_X9_agrees_89_90 : zchk cX9_agrees by_X9_agrees_89_90 89 = true ∧ zpc by_X9_agrees_89_90 89 = 90 := ⟨by decide +kernel, rfl⟩
abbrev by_X9_agrees_64_67 : ZB := [(.iload 5, .null), (.aload_n 0, .null)]
theorem ky_X9_agrees_64_67 : zchk cX9_agrees by_X9_agrees_64_67 64 = true ∧ zpc by_X9_agrees_64_67 64 = 67 := ⟨by decide +kernel, rfl⟩
abbrev by_X9_agrees_70_71 : ZB := [(.iload_n 1, .null)]
theorem ky_X9_agrees_70_71 : zchk cX9_agrees by_X9_agrees_70_71 70 = true ∧ zpc by_X9_agrees_70_71 70 = 71 := ⟨by decide +kernel, rfl⟩
abbrev by_X9_agrees_72_74 : ZB := [(.isub, .null), (.aload_n 0, .null)]
theorem ky_X9_agrees_72_74 : zchk cX9_agrees by_X9_agrees_72_74 72 = true ∧ zpc by_X9_agrees_72_74 72 = 74 := ⟨by decide +kernel, rfl⟩
abbrev by_X9_agrees_77_78 : ZB := [(.iload_n 1, .null)]
theorem ky_X9_agrees_77_78 : zchk cX9_agrees by_X9_agrees_77_78 77 = true ∧ zpc by_X9_agrees_77_78 77 = 78 := ⟨by decide +kernel, rfl⟩
abbrev by_X9_agrees_85_86 : ZB := [(.iconst 1, .int 1)]
theorem ky_X9_agrees_85_86 : zchk cX9_agrees by_X9_agrees_85_86 85 = true ∧ zpc by_X9_agrees_85_86 85 = 86 := ⟨by decide +kernel, rfl⟩
set_option maxHeartbeats 4000000 in
set_option maxRecDepth 100000 in
theorem cy_X9_agreesG (l : Launch) (G : KG) (trials : Nat) (tc : Int32) (tsp : Nat) (twh : Nat) (tfi : Nat) (tse : Nat) (tgi : Nat) (tle : Nat) (tsc : Nat) (tbx : Nat) (tby : Nat) (fwh : Nat → Int32) (ffi : Nat → Int32) (fse : Nat → Int32) (fgi : Nat → Int32) (fsc : Nat → Int32) (fbx : Nat → Int32) (fby : Nat → Int32) (tq : Int32) (xq : Int32) (yq : Int32) (ti : Int) (htq : tq.toInt = ti) (ht : 0 ≤ ti ∧ ti < 12) (hg : 0 ≤ (fgi tq.toNatClampNeg).toInt ∧ (fgi tq.toNatClampNeg).toInt ≤ 1000000) : Ct l G yX9_agrees cX9_agrees 8 (some .boolean) { frames := 1, cells := 0, slots := 0, locals := 23 } [.ref trials, .int tq, .int xq, .int yq] [(trials, ob 9 [.int tc, .ref tsp, .ref twh, .ref tfi, .ref tse, .ref tgi, .ref tle, .ref tsc, .ref tbx, .ref tby]), (twh, aZ G 12 fwh), (tfi, aI G 12 ffi), (tse, aI G 12 fse), (tgi, aI G 12 fgi), (tsc, aI G 12 fsc), (tbx, aI G 12 fbx), (tby, aI G 12 fby)] (fun r w1 => r = some (.int (zb (decide (agX (fsc tq.toNatClampNeg) (fbx tq.toNatClampNeg) (fby tq.toNatClampNeg) (fwh tq.toNatClampNeg) (ffi tq.toNatClampNeg) (fse tq.toNatClampNeg) (fgi tq.toNatClampNeg) xq yq)))) ∧ w1 = [(trials, ob 9 [.int tc, .ref tsp, .ref twh, .ref tfi, .ref tse, .ref tgi, .ref tle, .ref tsc, .ref tbx, .ref tby]), (twh, aZ G 12 fwh), (tfi, aI G 12 ffi), (tse, aI G 12 fse), (tgi, aI G 12 fgi), (tsc, aI G 12 fsc), (tbx, aI G 12 fbx), (tby, aI G 12 fby)]) := by
  refine ct_of [(0, .ref trials), (1, .int tq), (2, .int xq), (3, .int yq)] (by decide) (Nat.le_of_ble_eq_true rfl) rfl ?_
  intro p0 e0 s0 m0 args0 below0 meth0 c0 A X
  refine z_run X by_X9_agrees_0_1 ky_X9_agrees_0_1 (lv' := [(0, .ref trials), (1, .int tq), (2, .int xq), (3, .int yq)]) (st' := [.ref trials]) rfl ?_
  refine z_get X fl_9_31 dy_X9_agrees_1 0 rfl (v := .ref tsc) rfl ?_
  refine z_run X by_X9_agrees_4_5 ky_X9_agrees_4_5 (lv' := [(0, .ref trials), (1, .int tq), (2, .int xq), (3, .int yq)]) (st' := [.int tq, .ref tsc]) rfl ?_
  refine z_iald X dy_X9_agrees_5 5 rfl (vin htq ht.1 ht.2) (v := (fsc tq.toNatClampNeg)) rfl ?_
  refine z_run X by_X9_agrees_6_9 ky_X9_agrees_6_9 (lv' := [(0, .ref trials), (1, .int tq), (2, .int xq), (3, .int yq)]) (st' := [.ref trials, .int ((fsc tq.toNatClampNeg) * xq)]) rfl ?_
  refine z_get X fl_9_34 dy_X9_agrees_9 0 rfl (v := .ref tbx) rfl ?_
  refine z_run X by_X9_agrees_12_13 ky_X9_agrees_12_13 (lv' := [(0, .ref trials), (1, .int tq), (2, .int xq), (3, .int yq)]) (st' := [.int tq, .ref tbx, .int ((fsc tq.toNatClampNeg) * xq)]) rfl ?_
  refine z_iald X dy_X9_agrees_13 6 rfl (vin htq ht.1 ht.2) (v := (fbx tq.toNatClampNeg)) rfl ?_
  refine z_run X by_X9_agrees_14_18 ky_X9_agrees_14_18 (lv' := [(4, .int (((fsc tq.toNatClampNeg) * xq) + (fbx tq.toNatClampNeg))), (0, .ref trials), (1, .int tq), (2, .int xq), (3, .int yq)]) (st' := [.ref trials]) rfl ?_
  refine z_get X fl_9_31 dy_X9_agrees_18 0 rfl (v := .ref tsc) rfl ?_
  refine z_run X by_X9_agrees_21_22 ky_X9_agrees_21_22 (lv' := [(4, .int (((fsc tq.toNatClampNeg) * xq) + (fbx tq.toNatClampNeg))), (0, .ref trials), (1, .int tq), (2, .int xq), (3, .int yq)]) (st' := [.int tq, .ref tsc]) rfl ?_
  refine z_iald X dy_X9_agrees_22 5 rfl (vin htq ht.1 ht.2) (v := (fsc tq.toNatClampNeg)) rfl ?_
  refine z_run X by_X9_agrees_23_26 ky_X9_agrees_23_26 (lv' := [(4, .int (((fsc tq.toNatClampNeg) * xq) + (fbx tq.toNatClampNeg))), (0, .ref trials), (1, .int tq), (2, .int xq), (3, .int yq)]) (st' := [.ref trials, .int ((fsc tq.toNatClampNeg) * yq)]) rfl ?_
  refine z_get X fl_9_37 dy_X9_agrees_26 0 rfl (v := .ref tby) rfl ?_
  refine z_run X by_X9_agrees_29_30 ky_X9_agrees_29_30 (lv' := [(4, .int (((fsc tq.toNatClampNeg) * xq) + (fbx tq.toNatClampNeg))), (0, .ref trials), (1, .int tq), (2, .int xq), (3, .int yq)]) (st' := [.int tq, .ref tby, .int ((fsc tq.toNatClampNeg) * yq)]) rfl ?_
  refine z_iald X dy_X9_agrees_30 7 rfl (vin htq ht.1 ht.2) (v := (fby tq.toNatClampNeg)) rfl ?_
  refine z_run X by_X9_agrees_31_35 ky_X9_agrees_31_35 (lv' := [(5, .int (((fsc tq.toNatClampNeg) * yq) + (fby tq.toNatClampNeg))), (4, .int (((fsc tq.toNatClampNeg) * xq) + (fbx tq.toNatClampNeg))), (0, .ref trials), (1, .int tq), (2, .int xq), (3, .int yq)]) (st' := [.ref trials]) rfl ?_
  refine z_get X fl_9_15 dy_X9_agrees_35 0 rfl (v := .ref twh) rfl ?_
  refine z_run X by_X9_agrees_38_39 ky_X9_agrees_38_39 (lv' := [(5, .int (((fsc tq.toNatClampNeg) * yq) + (fby tq.toNatClampNeg))), (4, .int (((fsc tq.toNatClampNeg) * xq) + (fbx tq.toNatClampNeg))), (0, .ref trials), (1, .int tq), (2, .int xq), (3, .int yq)]) (st' := [.int tq, .ref twh]) rfl ?_
  refine z_zald X dy_X9_agrees_39 1 rfl (vin htq ht.1 ht.2) (v := (fwh tq.toNatClampNeg)) rfl ?_
  refine zi_eq X dy_X9_agrees_40 (tgt := 91) (by decide) (a := (fwh tq.toNatClampNeg).toInt) rfl (fun c40_1 => ?_) (fun c40_1 => ?_)
  ·
    refine z_run X by_X9_agrees_91_97 ky_X9_agrees_91_97 (lv' := [(5, .int (((fsc tq.toNatClampNeg) * yq) + (fby tq.toNatClampNeg))), (4, .int (((fsc tq.toNatClampNeg) * xq) + (fbx tq.toNatClampNeg))), (0, .ref trials), (1, .int tq), (2, .int xq), (3, .int yq)]) (st' := [.long (((fsc tq.toNatClampNeg) * yq) + (fby tq.toNatClampNeg)).toInt64, .long (((fsc tq.toNatClampNeg) * xq) + (fbx tq.toNatClampNeg)).toInt64]) rfl ?_
    refine z_callSN X k_9_58 (cy_X10_sizeOfG l G (((fsc tq.toNatClampNeg) * xq) + (fbx tq.toNatClampNeg)).toInt64 (((fsc tq.toNatClampNeg) * yq) + (fby tq.toNatClampNeg)).toInt64) dy_X9_agrees_97 ⟨Nat.le_of_ble_eq_true rfl, Nat.le_of_ble_eq_true rfl⟩ ⟨Nat.le_of_ble_eq_true rfl, Nat.le_of_ble_eq_true rfl⟩ rfl (rest := []) (As := [.long (((fsc tq.toNatClampNeg) * xq) + (fbx tq.toNatClampNeg)).toInt64, .long (((fsc tq.toNatClampNeg) * yq) + (fby tq.toNatClampNeg)).toInt64]) rfl (Nat.le_of_ble_eq_true rfl) [] [0, 1, 2, 3, 4, 5, 6, 7] rfl (by decide) (wr := [(trials, ob 9 [.int tc, .ref tsp, .ref twh, .ref tfi, .ref tse, .ref tgi, .ref tle, .ref tsc, .ref tbx, .ref tby]), (twh, aZ G 12 fwh), (tfi, aI G 12 ffi), (tse, aI G 12 fse), (tgi, aI G 12 fgi), (tsc, aI G 12 fsc), (tbx, aI G 12 fbx), (tby, aI G 12 fby)]) rfl (by decide) (by decide) ?_
    rintro _ _ ⟨rz_2, f97_3, rfl, rfl⟩
    refine Z.at (pc' := 100) (st' := [.long rz_2]) (ws' := [(trials, ob 9 [.int tc, .ref tsp, .ref twh, .ref tfi, .ref tse, .ref tgi, .ref tle, .ref tsc, .ref tbx, .ref tby]), (twh, aZ G 12 fwh), (tfi, aI G 12 ffi), (tse, aI G 12 fse), (tgi, aI G 12 fgi), (tsc, aI G 12 fsc), (tbx, aI G 12 fbx), (tby, aI G 12 fby)]) (kc' := 0) (ks' := 0) rfl rfl rfl rfl rfl ?_
    refine z_run X by_X9_agrees_100_105 ky_X9_agrees_100_105 (lv' := [(6, .long rz_2), (5, .int (((fsc tq.toNatClampNeg) * yq) + (fby tq.toNatClampNeg))), (4, .int (((fsc tq.toNatClampNeg) * xq) + (fbx tq.toNatClampNeg))), (0, .ref trials), (1, .int tq), (2, .int xq), (3, .int yq)]) (st' := [.ref trials, .long rz_2]) rfl ?_
    refine z_get X fl_9_19 dy_X9_agrees_105 0 rfl (v := .ref tfi) rfl ?_
    refine z_run X by_X9_agrees_108_109 ky_X9_agrees_108_109 (lv' := [(6, .long rz_2), (5, .int (((fsc tq.toNatClampNeg) * yq) + (fby tq.toNatClampNeg))), (4, .int (((fsc tq.toNatClampNeg) * xq) + (fbx tq.toNatClampNeg))), (0, .ref trials), (1, .int tq), (2, .int xq), (3, .int yq)]) (st' := [.int tq, .ref tfi, .long rz_2]) rfl ?_
    refine z_iald X dy_X9_agrees_109 2 rfl (vin htq ht.1 ht.2) (v := (ffi tq.toNatClampNeg)) rfl ?_
    refine z_run X by_X9_agrees_110_111 ky_X9_agrees_110_111 (lv' := [(6, .long rz_2), (5, .int (((fsc tq.toNatClampNeg) * yq) + (fby tq.toNatClampNeg))), (4, .int (((fsc tq.toNatClampNeg) * xq) + (fbx tq.toNatClampNeg))), (0, .ref trials), (1, .int tq), (2, .int xq), (3, .int yq)]) (st' := [.long (ffi tq.toNatClampNeg).toInt64, .long rz_2]) rfl ?_
    refine zl_lt X dy_X9_agrees_111 dy_X9_agrees_112 (tgt := 132) (by decide) (a := rz_2.toInt) (b := (ffi tq.toNatClampNeg).toInt) rfl (tI64 rfl) (fun c111_4 => ?_) (fun c111_4 => ?_)
    ·
      refine z_run X by_X9_agrees_132_133 ky_X9_agrees_132_133 (lv' := [(6, .long rz_2), (5, .int (((fsc tq.toNatClampNeg) * yq) + (fby tq.toNatClampNeg))), (4, .int (((fsc tq.toNatClampNeg) * xq) + (fbx tq.toNatClampNeg))), (0, .ref trials), (1, .int tq), (2, .int xq), (3, .int yq)]) (st' := [.int 0]) rfl ?_
      exact z_zret X rfl rfl dy_X9_agrees_133 (Nat.le_of_ble_eq_true rfl) (Nat.le_of_ble_eq_true rfl) ⟨(congrArg (fun z => some (Value.int z)) (zb_f (by unfold agX; rw [← f97_3]; exact fun h => h.elim (fun z => z.1 c40_1) (fun z => absurd z.2.1 (Int.not_le.mpr c111_4)))).symm), rfl⟩
    ·
      refine z_run X by_X9_agrees_115_118 ky_X9_agrees_115_118 (lv' := [(6, .long rz_2), (5, .int (((fsc tq.toNatClampNeg) * yq) + (fby tq.toNatClampNeg))), (4, .int (((fsc tq.toNatClampNeg) * xq) + (fbx tq.toNatClampNeg))), (0, .ref trials), (1, .int tq), (2, .int xq), (3, .int yq)]) (st' := [.ref trials, .long rz_2]) rfl ?_
      refine z_get X fl_9_22 dy_X9_agrees_118 0 rfl (v := .ref tse) rfl ?_
      refine z_run X by_X9_agrees_121_122 ky_X9_agrees_121_122 (lv' := [(6, .long rz_2), (5, .int (((fsc tq.toNatClampNeg) * yq) + (fby tq.toNatClampNeg))), (4, .int (((fsc tq.toNatClampNeg) * xq) + (fbx tq.toNatClampNeg))), (0, .ref trials), (1, .int tq), (2, .int xq), (3, .int yq)]) (st' := [.int tq, .ref tse, .long rz_2]) rfl ?_
      refine z_iald X dy_X9_agrees_122 3 rfl (vin htq ht.1 ht.2) (v := (fse tq.toNatClampNeg)) rfl ?_
      refine z_run X by_X9_agrees_123_124 ky_X9_agrees_123_124 (lv' := [(6, .long rz_2), (5, .int (((fsc tq.toNatClampNeg) * yq) + (fby tq.toNatClampNeg))), (4, .int (((fsc tq.toNatClampNeg) * xq) + (fbx tq.toNatClampNeg))), (0, .ref trials), (1, .int tq), (2, .int xq), (3, .int yq)]) (st' := [.long (fse tq.toNatClampNeg).toInt64, .long rz_2]) rfl ?_
      refine zl_gt X dy_X9_agrees_124 dy_X9_agrees_125 (tgt := 132) (by decide) (a := rz_2.toInt) (b := (fse tq.toNatClampNeg).toInt) rfl (tI64 rfl) (fun c124_5 => ?_) (fun c124_5 => ?_)
      ·
        refine z_run X by_X9_agrees_132_133 ky_X9_agrees_132_133 (lv' := [(6, .long rz_2), (5, .int (((fsc tq.toNatClampNeg) * yq) + (fby tq.toNatClampNeg))), (4, .int (((fsc tq.toNatClampNeg) * xq) + (fbx tq.toNatClampNeg))), (0, .ref trials), (1, .int tq), (2, .int xq), (3, .int yq)]) (st' := [.int 0]) rfl ?_
        exact z_zret X rfl rfl dy_X9_agrees_133 (Nat.le_of_ble_eq_true rfl) (Nat.le_of_ble_eq_true rfl) ⟨(congrArg (fun z => some (Value.int z)) (zb_f (by unfold agX; rw [← f97_3]; exact fun h => h.elim (fun z => z.1 c40_1) (fun z => absurd z.2.2 (Int.not_le.mpr c124_5)))).symm), rfl⟩
      ·
        refine z_run X by_X9_agrees_128_129 ky_X9_agrees_128_129 (lv' := [(6, .long rz_2), (5, .int (((fsc tq.toNatClampNeg) * yq) + (fby tq.toNatClampNeg))), (4, .int (((fsc tq.toNatClampNeg) * xq) + (fbx tq.toNatClampNeg))), (0, .ref trials), (1, .int tq), (2, .int xq), (3, .int yq)]) (st' := [.int 1]) rfl ?_
        refine z_goto X dy_X9_agrees_129 (tgt := 133) (by decide) ?_
        exact z_zret X rfl rfl dy_X9_agrees_133 (Nat.le_of_ble_eq_true rfl) (Nat.le_of_ble_eq_true rfl) ⟨(congrArg (fun z => some (Value.int z)) (zb_t (by unfold agX; rw [← f97_3]; exact Or.inr ⟨c40_1, c111_4, c124_5⟩)).symm), rfl⟩
  ·
    refine z_run X by_X9_agrees_43_46 ky_X9_agrees_43_46 (lv' := [(5, .int (((fsc tq.toNatClampNeg) * yq) + (fby tq.toNatClampNeg))), (4, .int (((fsc tq.toNatClampNeg) * xq) + (fbx tq.toNatClampNeg))), (0, .ref trials), (1, .int tq), (2, .int xq), (3, .int yq)]) (st' := [.ref trials, .int (((fsc tq.toNatClampNeg) * xq) + (fbx tq.toNatClampNeg))]) rfl ?_
    refine z_get X fl_9_19 dy_X9_agrees_46 0 rfl (v := .ref tfi) rfl ?_
    refine z_run X by_X9_agrees_49_50 ky_X9_agrees_49_50 (lv' := [(5, .int (((fsc tq.toNatClampNeg) * yq) + (fby tq.toNatClampNeg))), (4, .int (((fsc tq.toNatClampNeg) * xq) + (fbx tq.toNatClampNeg))), (0, .ref trials), (1, .int tq), (2, .int xq), (3, .int yq)]) (st' := [.int tq, .ref tfi, .int (((fsc tq.toNatClampNeg) * xq) + (fbx tq.toNatClampNeg))]) rfl ?_
    refine z_iald X dy_X9_agrees_50 2 rfl (vin htq ht.1 ht.2) (v := (ffi tq.toNatClampNeg)) rfl ?_
    refine z_run X by_X9_agrees_51_53 ky_X9_agrees_51_53 (lv' := [(5, .int (((fsc tq.toNatClampNeg) * yq) + (fby tq.toNatClampNeg))), (4, .int (((fsc tq.toNatClampNeg) * xq) + (fbx tq.toNatClampNeg))), (0, .ref trials), (1, .int tq), (2, .int xq), (3, .int yq)]) (st' := [.ref trials, .int ((((fsc tq.toNatClampNeg) * xq) + (fbx tq.toNatClampNeg)) - (ffi tq.toNatClampNeg))]) rfl ?_
    refine z_get X fl_9_25 dy_X9_agrees_53 0 rfl (v := .ref tgi) rfl ?_
    refine z_run X by_X9_agrees_56_57 ky_X9_agrees_56_57 (lv' := [(5, .int (((fsc tq.toNatClampNeg) * yq) + (fby tq.toNatClampNeg))), (4, .int (((fsc tq.toNatClampNeg) * xq) + (fbx tq.toNatClampNeg))), (0, .ref trials), (1, .int tq), (2, .int xq), (3, .int yq)]) (st' := [.int tq, .ref tgi, .int ((((fsc tq.toNatClampNeg) * xq) + (fbx tq.toNatClampNeg)) - (ffi tq.toNatClampNeg))]) rfl ?_
    refine z_iald X dy_X9_agrees_57 4 rfl (vin htq ht.1 ht.2) (v := (fgi tq.toNatClampNeg)) rfl ?_
    refine z_callSN X k_9_54 (cy_X10_isWithinG l G ((((fsc tq.toNatClampNeg) * xq) + (fbx tq.toNatClampNeg)) - (ffi tq.toNatClampNeg)) (fgi tq.toNatClampNeg) ((fgi tq.toNatClampNeg).toInt) rfl hg) dy_X9_agrees_58 ⟨Nat.le_of_ble_eq_true rfl, Nat.le_of_ble_eq_true rfl⟩ ⟨Nat.le_of_ble_eq_true rfl, Nat.le_of_ble_eq_true rfl⟩ rfl (rest := []) (As := [.int ((((fsc tq.toNatClampNeg) * xq) + (fbx tq.toNatClampNeg)) - (ffi tq.toNatClampNeg)), .int (fgi tq.toNatClampNeg)]) rfl (Nat.le_of_ble_eq_true rfl) [] [0, 1, 2, 3, 4, 5, 6, 7] rfl (by decide) (wr := [(trials, ob 9 [.int tc, .ref tsp, .ref twh, .ref tfi, .ref tse, .ref tgi, .ref tle, .ref tsc, .ref tbx, .ref tby]), (twh, aZ G 12 fwh), (tfi, aI G 12 ffi), (tse, aI G 12 fse), (tgi, aI G 12 fgi), (tsc, aI G 12 fsc), (tbx, aI G 12 fbx), (tby, aI G 12 fby)]) rfl (by decide) (by decide) ?_
    rintro _ _ ⟨rfl, rfl⟩
    refine Z.at (pc' := 61) (st' := [.int (zb (decide (-((fgi tq.toNatClampNeg).toInt) ≤ ((((fsc tq.toNatClampNeg) * xq) + (fbx tq.toNatClampNeg)) - (ffi tq.toNatClampNeg)).toInt ∧ ((((fsc tq.toNatClampNeg) * xq) + (fbx tq.toNatClampNeg)) - (ffi tq.toNatClampNeg)).toInt ≤ ((fgi tq.toNatClampNeg).toInt))))]) (ws' := [(trials, ob 9 [.int tc, .ref tsp, .ref twh, .ref tfi, .ref tse, .ref tgi, .ref tle, .ref tsc, .ref tbx, .ref tby]), (twh, aZ G 12 fwh), (tfi, aI G 12 ffi), (tse, aI G 12 fse), (tgi, aI G 12 fgi), (tsc, aI G 12 fsc), (tbx, aI G 12 fbx), (tby, aI G 12 fby)]) (kc' := 0) (ks' := 0) rfl rfl rfl rfl rfl ?_
    refine zi_eq_zb X dy_X9_agrees_61 (tgt := 89) (by decide) (fun c61_6 => ?_) (fun c61_6 => ?_)
    ·
      refine z_run X by_X9_agrees_89_90 ky_X9_agrees_89_90 (lv' := [(5, .int (((fsc tq.toNatClampNeg) * yq) + (fby tq.toNatClampNeg))), (4, .int (((fsc tq.toNatClampNeg) * xq) + (fbx tq.toNatClampNeg))), (0, .ref trials), (1, .int tq), (2, .int xq), (3, .int yq)]) (st' := [.int 0]) rfl ?_
      exact z_zret X rfl rfl dy_X9_agrees_90 (Nat.le_of_ble_eq_true rfl) (Nat.le_of_ble_eq_true rfl) ⟨(congrArg (fun z => some (Value.int z)) (zb_f (fun h => h.elim (fun z => c61_6 z.2.1) (fun z => c40_1 z.1))).symm), rfl⟩
    ·
      refine z_run X by_X9_agrees_64_67 ky_X9_agrees_64_67 (lv' := [(5, .int (((fsc tq.toNatClampNeg) * yq) + (fby tq.toNatClampNeg))), (4, .int (((fsc tq.toNatClampNeg) * xq) + (fbx tq.toNatClampNeg))), (0, .ref trials), (1, .int tq), (2, .int xq), (3, .int yq)]) (st' := [.ref trials, .int (((fsc tq.toNatClampNeg) * yq) + (fby tq.toNatClampNeg))]) rfl ?_
      refine z_get X fl_9_22 dy_X9_agrees_67 0 rfl (v := .ref tse) rfl ?_
      refine z_run X by_X9_agrees_70_71 ky_X9_agrees_70_71 (lv' := [(5, .int (((fsc tq.toNatClampNeg) * yq) + (fby tq.toNatClampNeg))), (4, .int (((fsc tq.toNatClampNeg) * xq) + (fbx tq.toNatClampNeg))), (0, .ref trials), (1, .int tq), (2, .int xq), (3, .int yq)]) (st' := [.int tq, .ref tse, .int (((fsc tq.toNatClampNeg) * yq) + (fby tq.toNatClampNeg))]) rfl ?_
      refine z_iald X dy_X9_agrees_71 3 rfl (vin htq ht.1 ht.2) (v := (fse tq.toNatClampNeg)) rfl ?_
      refine z_run X by_X9_agrees_72_74 ky_X9_agrees_72_74 (lv' := [(5, .int (((fsc tq.toNatClampNeg) * yq) + (fby tq.toNatClampNeg))), (4, .int (((fsc tq.toNatClampNeg) * xq) + (fbx tq.toNatClampNeg))), (0, .ref trials), (1, .int tq), (2, .int xq), (3, .int yq)]) (st' := [.ref trials, .int ((((fsc tq.toNatClampNeg) * yq) + (fby tq.toNatClampNeg)) - (fse tq.toNatClampNeg))]) rfl ?_
      refine z_get X fl_9_25 dy_X9_agrees_74 0 rfl (v := .ref tgi) rfl ?_
      refine z_run X by_X9_agrees_77_78 ky_X9_agrees_77_78 (lv' := [(5, .int (((fsc tq.toNatClampNeg) * yq) + (fby tq.toNatClampNeg))), (4, .int (((fsc tq.toNatClampNeg) * xq) + (fbx tq.toNatClampNeg))), (0, .ref trials), (1, .int tq), (2, .int xq), (3, .int yq)]) (st' := [.int tq, .ref tgi, .int ((((fsc tq.toNatClampNeg) * yq) + (fby tq.toNatClampNeg)) - (fse tq.toNatClampNeg))]) rfl ?_
      refine z_iald X dy_X9_agrees_78 4 rfl (vin htq ht.1 ht.2) (v := (fgi tq.toNatClampNeg)) rfl ?_
      refine z_callSN X k_9_54 (cy_X10_isWithinG l G ((((fsc tq.toNatClampNeg) * yq) + (fby tq.toNatClampNeg)) - (fse tq.toNatClampNeg)) (fgi tq.toNatClampNeg) ((fgi tq.toNatClampNeg).toInt) rfl hg) dy_X9_agrees_79 ⟨Nat.le_of_ble_eq_true rfl, Nat.le_of_ble_eq_true rfl⟩ ⟨Nat.le_of_ble_eq_true rfl, Nat.le_of_ble_eq_true rfl⟩ rfl (rest := []) (As := [.int ((((fsc tq.toNatClampNeg) * yq) + (fby tq.toNatClampNeg)) - (fse tq.toNatClampNeg)), .int (fgi tq.toNatClampNeg)]) rfl (Nat.le_of_ble_eq_true rfl) [] [0, 1, 2, 3, 4, 5, 6, 7] rfl (by decide) (wr := [(trials, ob 9 [.int tc, .ref tsp, .ref twh, .ref tfi, .ref tse, .ref tgi, .ref tle, .ref tsc, .ref tbx, .ref tby]), (twh, aZ G 12 fwh), (tfi, aI G 12 ffi), (tse, aI G 12 fse), (tgi, aI G 12 fgi), (tsc, aI G 12 fsc), (tbx, aI G 12 fbx), (tby, aI G 12 fby)]) rfl (by decide) (by decide) ?_
      rintro _ _ ⟨rfl, rfl⟩
      refine Z.at (pc' := 82) (st' := [.int (zb (decide (-((fgi tq.toNatClampNeg).toInt) ≤ ((((fsc tq.toNatClampNeg) * yq) + (fby tq.toNatClampNeg)) - (fse tq.toNatClampNeg)).toInt ∧ ((((fsc tq.toNatClampNeg) * yq) + (fby tq.toNatClampNeg)) - (fse tq.toNatClampNeg)).toInt ≤ ((fgi tq.toNatClampNeg).toInt))))]) (ws' := [(trials, ob 9 [.int tc, .ref tsp, .ref twh, .ref tfi, .ref tse, .ref tgi, .ref tle, .ref tsc, .ref tbx, .ref tby]), (twh, aZ G 12 fwh), (tfi, aI G 12 ffi), (tse, aI G 12 fse), (tgi, aI G 12 fgi), (tsc, aI G 12 fsc), (tbx, aI G 12 fbx), (tby, aI G 12 fby)]) (kc' := 0) (ks' := 0) rfl rfl rfl rfl rfl ?_
      refine zi_eq_zb X dy_X9_agrees_82 (tgt := 89) (by decide) (fun c82_7 => ?_) (fun c82_7 => ?_)
      ·
        refine z_run X by_X9_agrees_89_90 ky_X9_agrees_89_90 (lv' := [(5, .int (((fsc tq.toNatClampNeg) * yq) + (fby tq.toNatClampNeg))), (4, .int (((fsc tq.toNatClampNeg) * xq) + (fbx tq.toNatClampNeg))), (0, .ref trials), (1, .int tq), (2, .int xq), (3, .int yq)]) (st' := [.int 0]) rfl ?_
        exact z_zret X rfl rfl dy_X9_agrees_90 (Nat.le_of_ble_eq_true rfl) (Nat.le_of_ble_eq_true rfl) ⟨(congrArg (fun z => some (Value.int z)) (zb_f (fun h => h.elim (fun z => c82_7 z.2.2) (fun z => c40_1 z.1))).symm), rfl⟩
      ·
        refine z_run X by_X9_agrees_85_86 ky_X9_agrees_85_86 (lv' := [(5, .int (((fsc tq.toNatClampNeg) * yq) + (fby tq.toNatClampNeg))), (4, .int (((fsc tq.toNatClampNeg) * xq) + (fbx tq.toNatClampNeg))), (0, .ref trials), (1, .int tq), (2, .int xq), (3, .int yq)]) (st' := [.int 1]) rfl ?_
        refine z_goto X dy_X9_agrees_86 (tgt := 90) (by decide) ?_
        exact z_zret X rfl rfl dy_X9_agrees_90 (Nat.le_of_ble_eq_true rfl) (Nat.le_of_ble_eq_true rfl) ⟨(congrArg (fun z => some (Value.int z)) (zb_t (Or.inl ⟨c40_1, c61_6, c82_7⟩)).symm), rfl⟩

theorem dy_X9_firstAgainst_4 : decode cX9_firstAgainst 4 = .ok (.getfield 44, 3) := by decide +kernel
theorem dy_X9_firstAgainst_7 : decode cX9_firstAgainst 7 = .ok (.if_icmp .ge 21, 3) := by decide +kernel
theorem dy_X9_firstAgainst_30 : decode cX9_firstAgainst 30 = .ok (.ireturn, 1) := by decide +kernel
theorem dy_X9_firstAgainst_14 : decode cX9_firstAgainst 14 = .ok (.invokevirtual 62, 3) := by decide +kernel
theorem dy_X9_firstAgainst_17 : decode cX9_firstAgainst 17 = .ok (.ifCond .ne 5, 3) := by decide +kernel
theorem dy_X9_firstAgainst_25 : decode cX9_firstAgainst 25 = .ok (.goto (-23), 3) := by decide +kernel
theorem dy_X9_firstAgainst_21 : decode cX9_firstAgainst 21 = .ok (.ireturn, 1) := by decide +kernel
abbrev by_X9_firstAgainst_0_2 : ZB := [(.iconst 0, .int 0), (.istore_n 3, .null)]
theorem ky_X9_firstAgainst_0_2 : zchk cX9_firstAgainst by_X9_firstAgainst_0_2 0 = true ∧ zpc by_X9_firstAgainst_0_2 0 = 2 := ⟨by decide +kernel, rfl⟩
abbrev by_X9_firstAgainst_2_4 : ZB := [(.iload_n 3, .null), (.aload_n 0, .null)]
theorem ky_X9_firstAgainst_2_4 : zchk cX9_firstAgainst by_X9_firstAgainst_2_4 2 = true ∧ zpc by_X9_firstAgainst_2_4 2 = 4 := ⟨by decide +kernel, rfl⟩
abbrev by_X9_firstAgainst_28_30 : ZB := [(.bipush (-2), .int (-2))]
theorem ky_X9_firstAgainst_28_30 : zchk cX9_firstAgainst by_X9_firstAgainst_28_30 28 = true ∧ zpc by_X9_firstAgainst_28_30 28 = 30 := ⟨by decide +kernel, rfl⟩
abbrev by_X9_firstAgainst_10_14 : ZB := [(.aload_n 0, .null), (.iload_n 3, .null), (.iload_n 1, .null), (.iload_n 2, .null)]
theorem ky_X9_firstAgainst_10_14 : zchk cX9_firstAgainst by_X9_firstAgainst_10_14 10 = true ∧ zpc by_X9_firstAgainst_10_14 10 = 14 := ⟨by decide +kernel, rfl⟩
abbrev by_X9_firstAgainst_22_25 : ZB := [(.iinc 3 1, .int 1)]
theorem ky_X9_firstAgainst_22_25 : zchk cX9_firstAgainst by_X9_firstAgainst_22_25 22 = true ∧ zpc by_X9_firstAgainst_22_25 22 = 25 := ⟨by decide +kernel, rfl⟩
abbrev by_X9_firstAgainst_20_21 : ZB := [(.iload_n 3, .null)]
theorem ky_X9_firstAgainst_20_21 : zchk cX9_firstAgainst by_X9_firstAgainst_20_21 20 = true ∧ zpc by_X9_firstAgainst_20_21 20 = 21 := ⟨by decide +kernel, rfl⟩
set_option maxHeartbeats 4000000 in
set_option maxRecDepth 100000 in
theorem cy_X9_firstAgainstG (l : Launch) (G : KG) (trials : Nat) (tc : Int32) (tsp : Nat) (twh : Nat) (tfi : Nat) (tse : Nat) (tgi : Nat) (tle : Nat) (tsc : Nat) (tbx : Nat) (tby : Nat) (fwh : Nat → Int32) (ffi : Nat → Int32) (fse : Nat → Int32) (fgi : Nat → Int32) (fsc : Nat → Int32) (fbx : Nat → Int32) (fby : Nat → Int32) (xq : Int32) (yq : Int32) (tci : Int) (htc : tc.toInt = tci) (ht0 : 0 ≤ tci ∧ tci ≤ 12) (hg : ∀ j : Nat, (j : Int) < tci → 0 ≤ (fgi j).toInt ∧ (fgi j).toInt ≤ 1000000) : Ct l G yX9_firstAgainst cX9_firstAgainst 4 (some .int) { frames := 2, cells := 0, slots := 0, locals := 50 } [.ref trials, .int xq, .int yq] [(trials, ob 9 [.int tc, .ref tsp, .ref twh, .ref tfi, .ref tse, .ref tgi, .ref tle, .ref tsc, .ref tbx, .ref tby]), (twh, aZ G 12 fwh), (tfi, aI G 12 ffi), (tse, aI G 12 fse), (tgi, aI G 12 fgi), (tsc, aI G 12 fsc), (tbx, aI G 12 fbx), (tby, aI G 12 fby)] (fun r w1 => ∃ (rz : Int32), (rz.toInt = fa (fun j => agX (fsc j) (fbx j) (fby j) (fwh j) (ffi j) (fse j) (fgi j) xq yq) tci.toNat 0) ∧ r = some (.int rz) ∧ w1 = [(trials, ob 9 [.int tc, .ref tsp, .ref twh, .ref tfi, .ref tse, .ref tgi, .ref tle, .ref tsc, .ref tbx, .ref tby]), (twh, aZ G 12 fwh), (tfi, aI G 12 ffi), (tse, aI G 12 fse), (tgi, aI G 12 fgi), (tsc, aI G 12 fsc), (tbx, aI G 12 fbx), (tby, aI G 12 fby)]) := by
  refine ct_of [(0, .ref trials), (1, .int xq), (2, .int yq)] (by decide) (Nat.le_of_ble_eq_true rfl) rfl ?_
  intro p0 e0 s0 m0 args0 below0 meth0 c0 A X
  refine z_run X by_X9_firstAgainst_0_2 ky_X9_firstAgainst_0_2 (lv' := [(3, .int 0), (0, .ref trials), (1, .int xq), (2, .int yq)]) (st' := []) rfl ?_
  refine zloop (σ := Int32) (fun z => [(3, .int z), (0, .ref trials), (1, .int xq), (2, .int yq)]) (fun z => []) (fun z => [(trials, ob 9 [.int tc, .ref tsp, .ref twh, .ref tfi, .ref tse, .ref tgi, .ref tle, .ref tsc, .ref tbx, .ref tby]), (twh, aZ G 12 fwh), (tfi, aI G 12 ffi), (tse, aI G 12 fse), (tgi, aI G 12 fgi), (tsc, aI G 12 fsc), (tbx, aI G 12 fbx), (tby, aI G 12 fby)]) (fun z => (0 ≤ z.toInt ∧ z.toInt ≤ tci) ∧ (Eqf (fa (fun j => agX (fsc j) (fbx j) (fby j) (fwh j) (ffi j) (fse j) (fgi j) xq yq) tci.toNat 0) (fa (fun j => agX (fsc j) (fbx j) (fby j) (fwh j) (ffi j) (fse j) (fgi j) xq yq) (tci - z.toInt).toNat z.toInt.toNat))) (fun z => (tci - z.toInt).toNat) 0 ?_ ?_
  ·
    rintro i_ ⟨hi, hk⟩ ih2
    dsimp only at *
    refine z_run X by_X9_firstAgainst_2_4 ky_X9_firstAgainst_2_4 (lv' := [(3, .int i_), (0, .ref trials), (1, .int xq), (2, .int yq)]) (st' := [.ref trials, .int i_]) rfl ?_
    refine z_get X fl_9_44 dy_X9_firstAgainst_4 0 rfl (v := .int tc) rfl ?_
    refine zc_ge X dy_X9_firstAgainst_7 (tgt := 28) (by decide) (a := i_.toInt) (b := tci) rfl htc (fun c7_1 => ?_) (fun c7_1 => ?_)
    ·
      refine z_run X by_X9_firstAgainst_28_30 ky_X9_firstAgainst_28_30 (lv' := [(3, .int i_), (0, .ref trials), (1, .int xq), (2, .int yq)]) (st' := [.int (-2)]) rfl ?_
      exact z_iret X rfl dy_X9_firstAgainst_30 (Nat.le_of_ble_eq_true rfl) (Nat.le_of_ble_eq_true rfl) ⟨((-2) : Int32), ((show (-2 : Int32).toInt = -2 from by decide).trans (hk.eq.trans (fa_end c7_1)).symm), rfl, rfl⟩
    ·
      refine z_run X by_X9_firstAgainst_10_14 ky_X9_firstAgainst_10_14 (lv' := [(3, .int i_), (0, .ref trials), (1, .int xq), (2, .int yq)]) (st' := [.int yq, .int xq, .int i_, .ref trials]) rfl ?_
      refine z_callV X k_9_62 (cy_X9_agreesG l G trials tc tsp twh tfi tse tgi tle tsc tbx tby fwh ffi fse fgi fsc fbx fby i_ xq yq i_.toInt rfl (by omega) (hg i_.toNatClampNeg (show ((i_.toInt.toNat : Nat) : Int) < tci by omega))) dy_X9_firstAgainst_14 0 rfl rfl rfl ⟨Nat.le_of_ble_eq_true rfl, Nat.le_of_ble_eq_true rfl⟩ ⟨Nat.le_of_ble_eq_true rfl, Nat.le_of_ble_eq_true rfl⟩ rfl (rest := []) (As := [.int i_, .int xq, .int yq]) rfl (Nat.le_of_ble_eq_true rfl) [0, 1, 2, 3, 4, 5, 6, 7] [] rfl (by decide) (wr := []) rfl (by decide) (by decide) ?_
      rintro _ _ ⟨rfl, rfl⟩
      refine Z.at (pc' := 17) (st' := [.int (zb (decide (agX (fsc i_.toNatClampNeg) (fbx i_.toNatClampNeg) (fby i_.toNatClampNeg) (fwh i_.toNatClampNeg) (ffi i_.toNatClampNeg) (fse i_.toNatClampNeg) (fgi i_.toNatClampNeg) xq yq)))]) (ws' := [(trials, ob 9 [.int tc, .ref tsp, .ref twh, .ref tfi, .ref tse, .ref tgi, .ref tle, .ref tsc, .ref tbx, .ref tby]), (twh, aZ G 12 fwh), (tfi, aI G 12 ffi), (tse, aI G 12 fse), (tgi, aI G 12 fgi), (tsc, aI G 12 fsc), (tbx, aI G 12 fbx), (tby, aI G 12 fby)]) (kc' := 0) (ks' := 0) rfl rfl rfl rfl rfl ?_
      refine zi_ne_zb X dy_X9_firstAgainst_17 (tgt := 22) (by decide) (fun c17_2 => ?_) (fun c17_2 => ?_)
      ·
        refine z_run X by_X9_firstAgainst_22_25 ky_X9_firstAgainst_22_25 (lv' := [(3, .int (i_ + 1)), (0, .ref trials), (1, .int xq), (2, .int yq)]) (st' := []) rfl ?_
        refine z_goto X dy_X9_firstAgainst_25 (tgt := 2) (by decide) ?_
        exact ih2 (i_ + 1) ⟨(by clear c17_2; (try dsimp only); have e : (i_ + 1).toInt = i_.toInt + 1 := tI_add rfl (show (1 : Int32).toInt = 1 from by decide) (by omega); omega), (by have hlt_ : i_.toInt < tci := c7_1; have hP_ := c17_2; clear c17_2; (try dsimp only); have e : (i_ + 1).toInt = i_.toInt + 1 := tI_add rfl (show (1 : Int32).toInt = 1 from by decide) (by clear hP_; omega); rw [e]; exact hk.eq.trans (fa_step hi.1 hlt_ hP_))⟩ (by clear c17_2; (try dsimp only); have e : (i_ + 1).toInt = i_.toInt + 1 := tI_add rfl (show (1 : Int32).toInt = 1 from by decide) (by omega); omega)
      ·
        refine z_run X by_X9_firstAgainst_20_21 ky_X9_firstAgainst_20_21 (lv' := [(3, .int i_), (0, .ref trials), (1, .int xq), (2, .int yq)]) (st' := [.int i_]) rfl ?_
        exact z_iret X rfl dy_X9_firstAgainst_21 (Nat.le_of_ble_eq_true rfl) (Nat.le_of_ble_eq_true rfl) ⟨i_, ((hk.eq.trans (fa_stop hi.1 c7_1 c17_2)).symm), rfl, rfl⟩
  · exact ⟨(by (try dsimp only); have e0 : (0 : Int32).toInt = 0 := (by decide); omega), (by (try dsimp only); have e0 : (0 : Int32).toInt = 0 := (by decide); rw [e0, Int.sub_zero]; exact rfl)⟩

theorem dy_X10_besides_1 : decode cX10_besides 1 = .ok (.getfield 33, 3) := by decide +kernel
theorem dy_X10_besides_4 : decode cX10_besides 4 = .ok (.getfield 202, 3) := by decide +kernel
theorem dy_X10_besides_8 : decode cX10_besides 8 = .ok (.iaload, 1) := by decide +kernel
theorem dy_X10_besides_13 : decode cX10_besides 13 = .ok (.iaload, 1) := by decide +kernel
theorem dy_X10_besides_20 : decode cX10_besides 20 = .ok (.iaload, 1) := by decide +kernel
theorem dy_X10_besides_22 : decode cX10_besides 22 = .ok (.ireturn, 1) := by decide +kernel
abbrev by_X10_besides_0_1 : ZB := [(.aload_n 0, .null)]
theorem ky_X10_besides_0_1 : zchk cX10_besides by_X10_besides_0_1 0 = true ∧ zpc by_X10_besides_0_1 0 = 1 := ⟨by decide +kernel, rfl⟩
abbrev by_X10_besides_7_8 : ZB := [(.iload_n 2, .null)]
theorem ky_X10_besides_7_8 : zchk cX10_besides by_X10_besides_7_8 7 = true ∧ zpc by_X10_besides_7_8 7 = 8 := ⟨by decide +kernel, rfl⟩
abbrev by_X10_besides_9_13 : ZB := [(.aload_n 1, .null), (.iconst 4, .int 4), (.iload_n 3, .null), (.iadd, .null)]
theorem ky_X10_besides_9_13 : zchk cX10_besides by_X10_besides_9_13 9 = true ∧ zpc by_X10_besides_9_13 9 = 13 := ⟨by decide +kernel, rfl⟩
abbrev by_X10_besides_14_20 : ZB := [(.imul, .null), (.aload_n 1, .null), (.bipush 6, .int 6), (.iload_n 3, .null), (.iadd, .null)]
theorem ky_X10_besides_14_20 : zchk cX10_besides by_X10_besides_14_20 14 = true ∧ zpc by_X10_besides_14_20 14 = 20 := ⟨by decide +kernel, rfl⟩
abbrev by_X10_besides_21_22 : ZB := [(.iadd, .null)]
theorem ky_X10_besides_21_22 : zchk cX10_besides by_X10_besides_21_22 21 = true ∧ zpc by_X10_besides_21_22 21 = 22 := ⟨by decide +kernel, rfl⟩
set_option maxHeartbeats 4000000 in
set_option maxRecDepth 100000 in
theorem cy_X10_besidesG (l : Launch) (G : KG) (x : Nat) (x_told : Value) (x_reader : Value) (x_ring : Value) (speeds : Nat) (x_wheel : Value) (x_trials : Value) (x_span : Value) (x_search : Value) (x_kept : Value) (x_crosses : Value) (x_trueMasses : Value) (x_thought : Value) (x_up : Value) (x_low : Value) (x_fits : Value) (x_pulls : Value) (sc : Int32) (sf : Nat) (so : Nat) (sX0 : Value) (sX1 : Value) (sX2 : Value) (ff : Nat → Int32) (fo : Nat → Int32) (ms : Nat) (fm : Nat → Int32) (sq : Int32) (aq : Int32) (si : Int) (ai : Int) (hsq : sq.toInt = si) (haq : aq.toInt = ai) (hs0 : 0 ≤ si ∧ si < 6) (ha0 : 0 ≤ ai ∧ ai ≤ 1) : Ct l G yX10_besides cX10_besides 4 (some .int) { frames := 0, cells := 0, slots := 0, locals := 0 } [.ref x, .ref ms, .int sq, .int aq] [(x, ob 10 [x_told, x_reader, x_ring, .ref speeds, x_wheel, x_trials, x_span, x_search, x_kept, x_crosses, x_trueMasses, x_thought, x_up, x_low, x_fits, x_pulls]), (speeds, ob 7 [.int sc, .ref sf, .ref so, sX0, sX1, sX2]), (sf, aI G 6 ff), (so, aI G 6 fo), (ms, aI G 8 fm)] (fun r w1 => ∃ (rz : Int32), (rz = fo sq.toNatClampNeg * fm (4 + aq).toNatClampNeg + fm (6 + aq).toNatClampNeg) ∧ r = some (.int rz) ∧ w1 = [(x, ob 10 [x_told, x_reader, x_ring, .ref speeds, x_wheel, x_trials, x_span, x_search, x_kept, x_crosses, x_trueMasses, x_thought, x_up, x_low, x_fits, x_pulls]), (speeds, ob 7 [.int sc, .ref sf, .ref so, sX0, sX1, sX2]), (sf, aI G 6 ff), (so, aI G 6 fo), (ms, aI G 8 fm)]) := by
  refine ct_of [(0, .ref x), (1, .ref ms), (2, .int sq), (3, .int aq)] (by decide) (Nat.le_of_ble_eq_true rfl) rfl ?_
  intro p0 e0 s0 m0 args0 below0 meth0 c0 A X
  refine z_run X by_X10_besides_0_1 ky_X10_besides_0_1 (lv' := [(0, .ref x), (1, .ref ms), (2, .int sq), (3, .int aq)]) (st' := [.ref x]) rfl ?_
  refine z_get X fl_10_33 dy_X10_besides_1 0 rfl (v := .ref speeds) rfl ?_
  refine z_getN X fl_10_202 dy_X10_besides_4 1 rfl (v := .ref so) rfl ?_
  refine z_run X by_X10_besides_7_8 ky_X10_besides_7_8 (lv' := [(0, .ref x), (1, .ref ms), (2, .int sq), (3, .int aq)]) (st' := [.int sq, .ref so]) rfl ?_
  refine z_iald X dy_X10_besides_8 3 rfl (vin hsq (by omega) (by omega)) (v := (fo sq.toNatClampNeg)) rfl ?_
  refine z_run X by_X10_besides_9_13 ky_X10_besides_9_13 (lv' := [(0, .ref x), (1, .ref ms), (2, .int sq), (3, .int aq)]) (st' := [.int (4 + aq), .ref ms, .int (fo sq.toNatClampNeg)]) rfl ?_
  refine z_iald X dy_X10_besides_13 4 rfl (vin (tI_add (show (4 : Int32).toInt = 4 from by decide) haq (by omega)) (by omega) (by omega)) (v := (fm (4 + aq).toNatClampNeg)) rfl ?_
  refine z_run X by_X10_besides_14_20 ky_X10_besides_14_20 (lv' := [(0, .ref x), (1, .ref ms), (2, .int sq), (3, .int aq)]) (st' := [.int (6 + aq), .ref ms, .int ((fo sq.toNatClampNeg) * (fm (4 + aq).toNatClampNeg))]) rfl ?_
  refine z_iald X dy_X10_besides_20 4 rfl (vin (tI_add (show (6 : Int32).toInt = 6 from by decide) haq (by omega)) (by omega) (by omega)) (v := (fm (6 + aq).toNatClampNeg)) rfl ?_
  refine z_run X by_X10_besides_21_22 ky_X10_besides_21_22 (lv' := [(0, .ref x), (1, .ref ms), (2, .int sq), (3, .int aq)]) (st' := [.int (((fo sq.toNatClampNeg) * (fm (4 + aq).toNatClampNeg)) + (fm (6 + aq).toNatClampNeg))]) rfl ?_
  exact z_iret X rfl dy_X10_besides_22 (Nat.le_of_ble_eq_true rfl) (Nat.le_of_ble_eq_true rfl) ⟨(((fo sq.toNatClampNeg) * (fm (4 + aq).toNatClampNeg)) + (fm (6 + aq).toNatClampNeg)), rfl, rfl, rfl⟩

theorem dy_X10_feltBarePull_1 : decode cX10_feltBarePull 1 = .ok (.getfield 71, 3) := by decide +kernel
theorem dy_X10_feltBarePull_5 : decode cX10_feltBarePull 5 = .ok (.iaload, 1) := by decide +kernel
theorem dy_X10_feltBarePull_9 : decode cX10_feltBarePull 9 = .ok (.getfield 71, 3) := by decide +kernel
theorem dy_X10_feltBarePull_13 : decode cX10_feltBarePull 13 = .ok (.iaload, 1) := by decide +kernel
theorem dy_X10_feltBarePull_15 : decode cX10_feltBarePull 15 = .ok (.getfield 78, 3) := by decide +kernel
theorem dy_X10_feltBarePull_22 : decode cX10_feltBarePull 22 = .ok (.iaload, 1) := by decide +kernel
theorem dy_X10_feltBarePull_30 : decode cX10_feltBarePull 30 = .ok (.getfield 33, 3) := by decide +kernel
theorem dy_X10_feltBarePull_33 : decode cX10_feltBarePull 33 = .ok (.getfield 195, 3) := by decide +kernel
theorem dy_X10_feltBarePull_37 : decode cX10_feltBarePull 37 = .ok (.iaload, 1) := by decide +kernel
theorem dy_X10_feltBarePull_43 : decode cX10_feltBarePull 43 = .ok (.getfield 78, 3) := by decide +kernel
theorem dy_X10_feltBarePull_49 : decode cX10_feltBarePull 49 = .ok (.invokevirtual 198, 3) := by decide +kernel
theorem dy_X10_feltBarePull_53 : decode cX10_feltBarePull 53 = .ok (.ireturn, 1) := by decide +kernel
abbrev by_X10_feltBarePull_0_1 : ZB := [(.aload_n 0, .null)]
theorem ky_X10_feltBarePull_0_1 : zchk cX10_feltBarePull by_X10_feltBarePull_0_1 0 = true ∧ zpc by_X10_feltBarePull_0_1 0 = 1 := ⟨by decide +kernel, rfl⟩
abbrev by_X10_feltBarePull_4_5 : ZB := [(.iconst 0, .int 0)]
theorem ky_X10_feltBarePull_4_5 : zchk cX10_feltBarePull by_X10_feltBarePull_4_5 4 = true ∧ zpc by_X10_feltBarePull_4_5 4 = 5 := ⟨by decide +kernel, rfl⟩
abbrev by_X10_feltBarePull_6_9 : ZB := [(.iload_n 2, .null), (.imul, .null), (.aload_n 0, .null)]
theorem ky_X10_feltBarePull_6_9 : zchk cX10_feltBarePull by_X10_feltBarePull_6_9 6 = true ∧ zpc by_X10_feltBarePull_6_9 6 = 9 := ⟨by decide +kernel, rfl⟩
abbrev by_X10_feltBarePull_12_13 : ZB := [(.iconst 1, .int 1)]
theorem ky_X10_feltBarePull_12_13 : zchk cX10_feltBarePull by_X10_feltBarePull_12_13 12 = true ∧ zpc by_X10_feltBarePull_12_13 12 = 13 := ⟨by decide +kernel, rfl⟩
abbrev by_X10_feltBarePull_14_15 : ZB := [(.aload_n 0, .null)]
theorem ky_X10_feltBarePull_14_15 : zchk cX10_feltBarePull by_X10_feltBarePull_14_15 14 = true ∧ zpc by_X10_feltBarePull_14_15 14 = 15 := ⟨by decide +kernel, rfl⟩
abbrev by_X10_feltBarePull_18_22 : ZB := [(.iconst 2, .int 2), (.iload 4, .null), (.iadd, .null)]
theorem ky_X10_feltBarePull_18_22 : zchk cX10_feltBarePull by_X10_feltBarePull_18_22 18 = true ∧ zpc by_X10_feltBarePull_18_22 18 = 22 := ⟨by decide +kernel, rfl⟩
abbrev by_X10_feltBarePull_23_30 : ZB := [(.iload_n 3, .null), (.iadd, .null), (.imul, .null), (.iadd, .null), (.istore 5, .null), (.aload_n 0, .null)]
theorem ky_X10_feltBarePull_23_30 : zchk cX10_feltBarePull by_X10_feltBarePull_23_30 23 = true ∧ zpc by_X10_feltBarePull_23_30 23 = 30 := ⟨by decide +kernel, rfl⟩
abbrev by_X10_feltBarePull_36_37 : ZB := [(.iload_n 1, .null)]
theorem ky_X10_feltBarePull_36_37 : zchk cX10_feltBarePull by_X10_feltBarePull_36_37 36 = true ∧ zpc by_X10_feltBarePull_36_37 36 = 37 := ⟨by decide +kernel, rfl⟩
abbrev by_X10_feltBarePull_38_43 : ZB := [(.iload 5, .null), (.imul, .null), (.aload_n 0, .null), (.aload_n 0, .null)]
theorem ky_X10_feltBarePull_38_43 : zchk cX10_feltBarePull by_X10_feltBarePull_38_43 38 = true ∧ zpc by_X10_feltBarePull_38_43 38 = 43 := ⟨by decide +kernel, rfl⟩
abbrev by_X10_feltBarePull_46_49 : ZB := [(.iload_n 1, .null), (.iload 4, .null)]
theorem ky_X10_feltBarePull_46_49 : zchk cX10_feltBarePull by_X10_feltBarePull_46_49 46 = true ∧ zpc by_X10_feltBarePull_46_49 46 = 49 := ⟨by decide +kernel, rfl⟩
abbrev by_X10_feltBarePull_52_53 : ZB := [(.iadd, .null)]
theorem ky_X10_feltBarePull_52_53 : zchk cX10_feltBarePull by_X10_feltBarePull_52_53 52 = true ∧ zpc by_X10_feltBarePull_52_53 52 = 53 := ⟨by decide +kernel, rfl⟩
set_option maxHeartbeats 4000000 in
set_option maxRecDepth 100000 in
theorem cy_X10_feltBarePullG (l : Launch) (G : KG) (x : Nat) (x_told : Value) (x_reader : Value) (x_ring : Value) (speeds : Nat) (x_wheel : Value) (x_trials : Value) (x_span : Value) (x_search : Value) (x_kept : Value) (crosses : Nat) (x_trueMasses : Value) (thought : Nat) (x_up : Value) (x_low : Value) (x_fits : Value) (x_pulls : Value) (sc : Int32) (sf : Nat) (so : Nat) (sX0 : Value) (sX1 : Value) (sX2 : Value) (ff : Nat → Int32) (fo : Nat → Int32) (cr : Nat → Int32) (ft : Nat → Int32) (sq : Int32) (l0 : Int32) (l1 : Int32) (aq : Int32) (si : Int) (ai : Int) (hsq : sq.toInt = si) (haq : aq.toInt = ai) (hs0 : 0 ≤ si ∧ si < 6) (ha0 : 0 ≤ ai ∧ ai ≤ 1) : Ct l G yX10_feltBarePull cX10_feltBarePull 6 (some .int) { frames := 1, cells := 0, slots := 0, locals := 23 } [.ref x, .int sq, .int l0, .int l1, .int aq] [(x, ob 10 [x_told, x_reader, x_ring, .ref speeds, x_wheel, x_trials, x_span, x_search, x_kept, .ref crosses, x_trueMasses, .ref thought, x_up, x_low, x_fits, x_pulls]), (speeds, ob 7 [.int sc, .ref sf, .ref so, sX0, sX1, sX2]), (sf, aI G 6 ff), (so, aI G 6 fo), (crosses, aI G 4 cr), (thought, aI G 8 ft)] (fun r w1 => ∃ (rz : Int32), (rz = bsX (ff sq.toNatClampNeg) (fo sq.toNatClampNeg) (cr (0 : Int32).toNatClampNeg) (cr (1 : Int32).toNatClampNeg) (ft (2 + aq).toNatClampNeg) (ft (4 + aq).toNatClampNeg) (ft (6 + aq).toNatClampNeg) l0 l1) ∧ r = some (.int rz) ∧ w1 = [(x, ob 10 [x_told, x_reader, x_ring, .ref speeds, x_wheel, x_trials, x_span, x_search, x_kept, .ref crosses, x_trueMasses, .ref thought, x_up, x_low, x_fits, x_pulls]), (speeds, ob 7 [.int sc, .ref sf, .ref so, sX0, sX1, sX2]), (sf, aI G 6 ff), (so, aI G 6 fo), (crosses, aI G 4 cr), (thought, aI G 8 ft)]) := by
  refine ct_of [(0, .ref x), (1, .int sq), (2, .int l0), (3, .int l1), (4, .int aq)] (by decide) (Nat.le_of_ble_eq_true rfl) rfl ?_
  intro p0 e0 s0 m0 args0 below0 meth0 c0 A X
  refine z_run X by_X10_feltBarePull_0_1 ky_X10_feltBarePull_0_1 (lv' := [(0, .ref x), (1, .int sq), (2, .int l0), (3, .int l1), (4, .int aq)]) (st' := [.ref x]) rfl ?_
  refine z_get X fl_10_71 dy_X10_feltBarePull_1 0 rfl (v := .ref crosses) rfl ?_
  refine z_run X by_X10_feltBarePull_4_5 ky_X10_feltBarePull_4_5 (lv' := [(0, .ref x), (1, .int sq), (2, .int l0), (3, .int l1), (4, .int aq)]) (st' := [.int 0, .ref crosses]) rfl ?_
  refine z_iald X dy_X10_feltBarePull_5 4 rfl (show vp_in _ _ from by unfold vp_in; decide) (v := (cr (0 : Int32).toNatClampNeg)) rfl ?_
  refine z_run X by_X10_feltBarePull_6_9 ky_X10_feltBarePull_6_9 (lv' := [(0, .ref x), (1, .int sq), (2, .int l0), (3, .int l1), (4, .int aq)]) (st' := [.ref x, .int ((cr (0 : Int32).toNatClampNeg) * l0)]) rfl ?_
  refine z_get X fl_10_71 dy_X10_feltBarePull_9 0 rfl (v := .ref crosses) rfl ?_
  refine z_run X by_X10_feltBarePull_12_13 ky_X10_feltBarePull_12_13 (lv' := [(0, .ref x), (1, .int sq), (2, .int l0), (3, .int l1), (4, .int aq)]) (st' := [.int 1, .ref crosses, .int ((cr (0 : Int32).toNatClampNeg) * l0)]) rfl ?_
  refine z_iald X dy_X10_feltBarePull_13 4 rfl (show vp_in _ _ from by unfold vp_in; decide) (v := (cr (1 : Int32).toNatClampNeg)) rfl ?_
  refine z_run X by_X10_feltBarePull_14_15 ky_X10_feltBarePull_14_15 (lv' := [(0, .ref x), (1, .int sq), (2, .int l0), (3, .int l1), (4, .int aq)]) (st' := [.ref x, .int (cr (1 : Int32).toNatClampNeg), .int ((cr (0 : Int32).toNatClampNeg) * l0)]) rfl ?_
  refine z_get X fl_10_78 dy_X10_feltBarePull_15 0 rfl (v := .ref thought) rfl ?_
  refine z_run X by_X10_feltBarePull_18_22 ky_X10_feltBarePull_18_22 (lv' := [(0, .ref x), (1, .int sq), (2, .int l0), (3, .int l1), (4, .int aq)]) (st' := [.int (2 + aq), .ref thought, .int (cr (1 : Int32).toNatClampNeg), .int ((cr (0 : Int32).toNatClampNeg) * l0)]) rfl ?_
  refine z_iald X dy_X10_feltBarePull_22 5 rfl (vin (tI_add (show (2 : Int32).toInt = 2 from by decide) haq (by omega)) (by omega) (by omega)) (v := (ft (2 + aq).toNatClampNeg)) rfl ?_
  refine z_run X by_X10_feltBarePull_23_30 ky_X10_feltBarePull_23_30 (lv' := [(5, .int (((cr (0 : Int32).toNatClampNeg) * l0) + ((cr (1 : Int32).toNatClampNeg) * ((ft (2 + aq).toNatClampNeg) + l1)))), (0, .ref x), (1, .int sq), (2, .int l0), (3, .int l1), (4, .int aq)]) (st' := [.ref x]) rfl ?_
  refine z_get X fl_10_33 dy_X10_feltBarePull_30 0 rfl (v := .ref speeds) rfl ?_
  refine z_getN X fl_10_195 dy_X10_feltBarePull_33 1 rfl (v := .ref sf) rfl ?_
  refine z_run X by_X10_feltBarePull_36_37 ky_X10_feltBarePull_36_37 (lv' := [(5, .int (((cr (0 : Int32).toNatClampNeg) * l0) + ((cr (1 : Int32).toNatClampNeg) * ((ft (2 + aq).toNatClampNeg) + l1)))), (0, .ref x), (1, .int sq), (2, .int l0), (3, .int l1), (4, .int aq)]) (st' := [.int sq, .ref sf]) rfl ?_
  refine z_iald X dy_X10_feltBarePull_37 2 rfl (vin hsq (by omega) (by omega)) (v := (ff sq.toNatClampNeg)) rfl ?_
  refine z_run X by_X10_feltBarePull_38_43 ky_X10_feltBarePull_38_43 (lv' := [(5, .int (((cr (0 : Int32).toNatClampNeg) * l0) + ((cr (1 : Int32).toNatClampNeg) * ((ft (2 + aq).toNatClampNeg) + l1)))), (0, .ref x), (1, .int sq), (2, .int l0), (3, .int l1), (4, .int aq)]) (st' := [.ref x, .ref x, .int ((ff sq.toNatClampNeg) * (((cr (0 : Int32).toNatClampNeg) * l0) + ((cr (1 : Int32).toNatClampNeg) * ((ft (2 + aq).toNatClampNeg) + l1))))]) rfl ?_
  refine z_get X fl_10_78 dy_X10_feltBarePull_43 0 rfl (v := .ref thought) rfl ?_
  refine z_run X by_X10_feltBarePull_46_49 ky_X10_feltBarePull_46_49 (lv' := [(5, .int (((cr (0 : Int32).toNatClampNeg) * l0) + ((cr (1 : Int32).toNatClampNeg) * ((ft (2 + aq).toNatClampNeg) + l1)))), (0, .ref x), (1, .int sq), (2, .int l0), (3, .int l1), (4, .int aq)]) (st' := [.int aq, .int sq, .ref thought, .ref x, .int ((ff sq.toNatClampNeg) * (((cr (0 : Int32).toNatClampNeg) * l0) + ((cr (1 : Int32).toNatClampNeg) * ((ft (2 + aq).toNatClampNeg) + l1))))]) rfl ?_
  refine z_callV X k_10_198 (cy_X10_besidesG l G x x_told x_reader x_ring speeds x_wheel x_trials x_span x_search x_kept (.ref crosses) x_trueMasses (.ref thought) x_up x_low x_fits x_pulls sc sf so sX0 sX1 sX2 ff fo thought ft sq aq si ai hsq haq (by omega) (by omega)) dy_X10_feltBarePull_49 0 rfl rfl rfl ⟨Nat.le_of_ble_eq_true rfl, Nat.le_of_ble_eq_true rfl⟩ ⟨Nat.le_of_ble_eq_true rfl, Nat.le_of_ble_eq_true rfl⟩ rfl (rest := [.int ((ff sq.toNatClampNeg) * (((cr (0 : Int32).toNatClampNeg) * l0) + ((cr (1 : Int32).toNatClampNeg) * ((ft (2 + aq).toNatClampNeg) + l1))))]) (As := [.ref thought, .int sq, .int aq]) rfl (Nat.le_of_ble_eq_true rfl) [0, 1, 2, 3, 5] [4] rfl (by decide) (wr := [(crosses, aI G 4 cr)]) rfl (by decide) (by decide) ?_
  rintro _ _ ⟨rz_1, f49_2, rfl, rfl⟩
  refine Z.at (pc' := 52) (st' := [.int rz_1, .int ((ff sq.toNatClampNeg) * (((cr (0 : Int32).toNatClampNeg) * l0) + ((cr (1 : Int32).toNatClampNeg) * ((ft (2 + aq).toNatClampNeg) + l1))))]) (ws' := [(crosses, aI G 4 cr), (x, ob 10 [x_told, x_reader, x_ring, .ref speeds, x_wheel, x_trials, x_span, x_search, x_kept, .ref crosses, x_trueMasses, .ref thought, x_up, x_low, x_fits, x_pulls]), (speeds, ob 7 [.int sc, .ref sf, .ref so, sX0, sX1, sX2]), (sf, aI G 6 ff), (so, aI G 6 fo), (thought, aI G 8 ft)]) (kc' := 0) (ks' := 0) rfl rfl rfl rfl rfl ?_
  refine z_run X by_X10_feltBarePull_52_53 ky_X10_feltBarePull_52_53 (lv' := [(5, .int (((cr (0 : Int32).toNatClampNeg) * l0) + ((cr (1 : Int32).toNatClampNeg) * ((ft (2 + aq).toNatClampNeg) + l1)))), (0, .ref x), (1, .int sq), (2, .int l0), (3, .int l1), (4, .int aq)]) (st' := [.int (((ff sq.toNatClampNeg) * (((cr (0 : Int32).toNatClampNeg) * l0) + ((cr (1 : Int32).toNatClampNeg) * ((ft (2 + aq).toNatClampNeg) + l1)))) + rz_1)]) rfl ?_
  refine Z.sub (lv' := []) [] rfl [1, 2, 3, 4, 0, 5] (ws' := [(x, ob 10 [x_told, x_reader, x_ring, .ref speeds, x_wheel, x_trials, x_span, x_search, x_kept, .ref crosses, x_trueMasses, .ref thought, x_up, x_low, x_fits, x_pulls]), (speeds, ob 7 [.int sc, .ref sf, .ref so, sX0, sX1, sX2]), (sf, aI G 6 ff), (so, aI G 6 fo), (crosses, aI G 4 cr), (thought, aI G 8 ft)]) rfl (by decide) ?_
  exact z_iret X rfl dy_X10_feltBarePull_53 (Nat.le_of_ble_eq_true rfl) (Nat.le_of_ble_eq_true rfl) ⟨(((ff sq.toNatClampNeg) * (((cr (0 : Int32).toNatClampNeg) * l0) + ((cr (1 : Int32).toNatClampNeg) * ((ft (2 + aq).toNatClampNeg) + l1)))) + rz_1), (by rw [f49_2]; rfl), rfl, rfl⟩

theorem dy_X10_prepareTrials_4 : decode cX10_prepareTrials 4 = .ok (.getfield 47, 3) := by decide +kernel
theorem dy_X10_prepareTrials_7 : decode cX10_prepareTrials 7 = .ok (.getfield 206, 3) := by decide +kernel
theorem dy_X10_prepareTrials_10 : decode cX10_prepareTrials 10 = .ok (.if_icmp .ge 124, 3) := by decide +kernel
theorem dy_X10_prepareTrials_134 : decode cX10_prepareTrials 134 = .ok (.return_, 1) := by decide +kernel
theorem dy_X10_prepareTrials_14 : decode cX10_prepareTrials 14 = .ok (.getfield 47, 3) := by decide +kernel
theorem dy_X10_prepareTrials_17 : decode cX10_prepareTrials 17 = .ok (.getfield 314, 3) := by decide +kernel
theorem dy_X10_prepareTrials_21 : decode cX10_prepareTrials 21 = .ok (.iaload, 1) := by decide +kernel
theorem dy_X10_prepareTrials_24 : decode cX10_prepareTrials 24 = .ok (.getfield 47, 3) := by decide +kernel
theorem dy_X10_prepareTrials_27 : decode cX10_prepareTrials 27 = .ok (.getfield 317, 3) := by decide +kernel
theorem dy_X10_prepareTrials_32 : decode cX10_prepareTrials 32 = .ok (.getfield 33, 3) := by decide +kernel
theorem dy_X10_prepareTrials_35 : decode cX10_prepareTrials 35 = .ok (.getfield 195, 3) := by decide +kernel
theorem dy_X10_prepareTrials_39 : decode cX10_prepareTrials 39 = .ok (.iaload, 1) := by decide +kernel
theorem dy_X10_prepareTrials_41 : decode cX10_prepareTrials 41 = .ok (.getfield 71, 3) := by decide +kernel
theorem dy_X10_prepareTrials_45 : decode cX10_prepareTrials 45 = .ok (.iaload, 1) := by decide +kernel
theorem dy_X10_prepareTrials_47 : decode cX10_prepareTrials 47 = .ok (.iastore, 1) := by decide +kernel
theorem dy_X10_prepareTrials_49 : decode cX10_prepareTrials 49 = .ok (.getfield 47, 3) := by decide +kernel
theorem dy_X10_prepareTrials_52 : decode cX10_prepareTrials 52 = .ok (.getfield 320, 3) := by decide +kernel
theorem dy_X10_prepareTrials_59 : decode cX10_prepareTrials 59 = .ok (.getfield 47, 3) := by decide +kernel
theorem dy_X10_prepareTrials_62 : decode cX10_prepareTrials 62 = .ok (.getfield 323, 3) := by decide +kernel
theorem dy_X10_prepareTrials_68 : decode cX10_prepareTrials 68 = .ok (.iaload, 1) := by decide +kernel
theorem dy_X10_prepareTrials_70 : decode cX10_prepareTrials 70 = .ok (.getfield 47, 3) := by decide +kernel
theorem dy_X10_prepareTrials_73 : decode cX10_prepareTrials 73 = .ok (.getfield 323, 3) := by decide +kernel
theorem dy_X10_prepareTrials_81 : decode cX10_prepareTrials 81 = .ok (.iaload, 1) := by decide +kernel
theorem dy_X10_prepareTrials_83 : decode cX10_prepareTrials 83 = .ok (.invokevirtual 306, 3) := by decide +kernel
theorem dy_X10_prepareTrials_86 : decode cX10_prepareTrials 86 = .ok (.iastore, 1) := by decide +kernel
theorem dy_X10_prepareTrials_88 : decode cX10_prepareTrials 88 = .ok (.getfield 47, 3) := by decide +kernel
theorem dy_X10_prepareTrials_91 : decode cX10_prepareTrials 91 = .ok (.getfield 326, 3) := by decide +kernel
theorem dy_X10_prepareTrials_98 : decode cX10_prepareTrials 98 = .ok (.getfield 47, 3) := by decide +kernel
theorem dy_X10_prepareTrials_101 : decode cX10_prepareTrials 101 = .ok (.getfield 323, 3) := by decide +kernel
theorem dy_X10_prepareTrials_109 : decode cX10_prepareTrials 109 = .ok (.iaload, 1) := by decide +kernel
theorem dy_X10_prepareTrials_111 : decode cX10_prepareTrials 111 = .ok (.getfield 47, 3) := by decide +kernel
theorem dy_X10_prepareTrials_114 : decode cX10_prepareTrials 114 = .ok (.getfield 323, 3) := by decide +kernel
theorem dy_X10_prepareTrials_122 : decode cX10_prepareTrials 122 = .ok (.iaload, 1) := by decide +kernel
theorem dy_X10_prepareTrials_124 : decode cX10_prepareTrials 124 = .ok (.invokevirtual 306, 3) := by decide +kernel
theorem dy_X10_prepareTrials_127 : decode cX10_prepareTrials 127 = .ok (.iastore, 1) := by decide +kernel
theorem dy_X10_prepareTrials_131 : decode cX10_prepareTrials 131 = .ok (.goto (-129), 3) := by decide +kernel
abbrev by_X10_prepareTrials_0_2 : ZB := [(.iconst 0, .int 0), (.istore_n 1, .null)]
theorem ky_X10_prepareTrials_0_2 : zchk cX10_prepareTrials by_X10_prepareTrials_0_2 0 = true ∧ zpc by_X10_prepareTrials_0_2 0 = 2 := ⟨by decide +kernel, rfl⟩
abbrev by_X10_prepareTrials_2_4 : ZB := [(.iload_n 1, .null), (.aload_n 0, .null)]
theorem ky_X10_prepareTrials_2_4 : zchk cX10_prepareTrials by_X10_prepareTrials_2_4 2 = true ∧ zpc by_X10_prepareTrials_2_4 2 = 4 := ⟨by decide +kernel, rfl⟩
abbrev by_X10_prepareTrials_13_14 : ZB := [(.aload_n 0, .null)]
theorem ky_X10_prepareTrials_13_14 : zchk cX10_prepareTrials by_X10_prepareTrials_13_14 13 = true ∧ zpc by_X10_prepareTrials_13_14 13 = 14 := ⟨by decide +kernel, rfl⟩
abbrev by_X10_prepareTrials_20_21 : ZB := [(.iload_n 1, .null)]
theorem ky_X10_prepareTrials_20_21 : zchk cX10_prepareTrials by_X10_prepareTrials_20_21 20 = true ∧ zpc by_X10_prepareTrials_20_21 20 = 21 := ⟨by decide +kernel, rfl⟩
abbrev by_X10_prepareTrials_22_24 : ZB := [(.istore_n 2, .null), (.aload_n 0, .null)]
theorem ky_X10_prepareTrials_22_24 : zchk cX10_prepareTrials by_X10_prepareTrials_22_24 22 = true ∧ zpc by_X10_prepareTrials_22_24 22 = 24 := ⟨by decide +kernel, rfl⟩
abbrev by_X10_prepareTrials_30_32 : ZB := [(.iload_n 1, .null), (.aload_n 0, .null)]
theorem ky_X10_prepareTrials_30_32 : zchk cX10_prepareTrials by_X10_prepareTrials_30_32 30 = true ∧ zpc by_X10_prepareTrials_30_32 30 = 32 := ⟨by decide +kernel, rfl⟩
abbrev by_X10_prepareTrials_38_39 : ZB := [(.iload_n 2, .null)]
theorem ky_X10_prepareTrials_38_39 : zchk cX10_prepareTrials by_X10_prepareTrials_38_39 38 = true ∧ zpc by_X10_prepareTrials_38_39 38 = 39 := ⟨by decide +kernel, rfl⟩
abbrev by_X10_prepareTrials_40_41 : ZB := [(.aload_n 0, .null)]
theorem ky_X10_prepareTrials_40_41 : zchk cX10_prepareTrials by_X10_prepareTrials_40_41 40 = true ∧ zpc by_X10_prepareTrials_40_41 40 = 41 := ⟨by decide +kernel, rfl⟩
abbrev by_X10_prepareTrials_44_45 : ZB := [(.iconst 0, .int 0)]
theorem ky_X10_prepareTrials_44_45 : zchk cX10_prepareTrials by_X10_prepareTrials_44_45 44 = true ∧ zpc by_X10_prepareTrials_44_45 44 = 45 := ⟨by decide +kernel, rfl⟩
abbrev by_X10_prepareTrials_46_47 : ZB := [(.imul, .null)]
theorem ky_X10_prepareTrials_46_47 : zchk cX10_prepareTrials by_X10_prepareTrials_46_47 46 = true ∧ zpc by_X10_prepareTrials_46_47 46 = 47 := ⟨by decide +kernel, rfl⟩
abbrev by_X10_prepareTrials_48_49 : ZB := [(.aload_n 0, .null)]
theorem ky_X10_prepareTrials_48_49 : zchk cX10_prepareTrials by_X10_prepareTrials_48_49 48 = true ∧ zpc by_X10_prepareTrials_48_49 48 = 49 := ⟨by decide +kernel, rfl⟩
abbrev by_X10_prepareTrials_55_59 : ZB := [(.iload_n 1, .null), (.aload_n 0, .null), (.iload_n 2, .null), (.aload_n 0, .null)]
theorem ky_X10_prepareTrials_55_59 : zchk cX10_prepareTrials by_X10_prepareTrials_55_59 55 = true ∧ zpc by_X10_prepareTrials_55_59 55 = 59 := ⟨by decide +kernel, rfl⟩
abbrev by_X10_prepareTrials_65_68 : ZB := [(.iconst 4, .int 4), (.iload_n 1, .null), (.imul, .null)]
theorem ky_X10_prepareTrials_65_68 : zchk cX10_prepareTrials by_X10_prepareTrials_65_68 65 = true ∧ zpc by_X10_prepareTrials_65_68 65 = 68 := ⟨by decide +kernel, rfl⟩
abbrev by_X10_prepareTrials_69_70 : ZB := [(.aload_n 0, .null)]
theorem ky_X10_prepareTrials_69_70 : zchk cX10_prepareTrials by_X10_prepareTrials_69_70 69 = true ∧ zpc by_X10_prepareTrials_69_70 69 = 70 := ⟨by decide +kernel, rfl⟩
abbrev by_X10_prepareTrials_76_81 : ZB := [(.iconst 4, .int 4), (.iload_n 1, .null), (.imul, .null), (.iconst 2, .int 2), (.iadd, .null)]
theorem ky_X10_prepareTrials_76_81 : zchk cX10_prepareTrials by_X10_prepareTrials_76_81 76 = true ∧ zpc by_X10_prepareTrials_76_81 76 = 81 := ⟨by decide +kernel, rfl⟩
abbrev by_X10_prepareTrials_82_83 : ZB := [(.iconst 0, .int 0)]
theorem ky_X10_prepareTrials_82_83 : zchk cX10_prepareTrials by_X10_prepareTrials_82_83 82 = true ∧ zpc by_X10_prepareTrials_82_83 82 = 83 := ⟨by decide +kernel, rfl⟩
abbrev by_X10_prepareTrials_87_88 : ZB := [(.aload_n 0, .null)]
theorem ky_X10_prepareTrials_87_88 : zchk cX10_prepareTrials by_X10_prepareTrials_87_88 87 = true ∧ zpc by_X10_prepareTrials_87_88 87 = 88 := ⟨by decide +kernel, rfl⟩
abbrev by_X10_prepareTrials_94_98 : ZB := [(.iload_n 1, .null), (.aload_n 0, .null), (.iload_n 2, .null), (.aload_n 0, .null)]
theorem ky_X10_prepareTrials_94_98 : zchk cX10_prepareTrials by_X10_prepareTrials_94_98 94 = true ∧ zpc by_X10_prepareTrials_94_98 94 = 98 := ⟨by decide +kernel, rfl⟩
abbrev by_X10_prepareTrials_104_109 : ZB := [(.iconst 4, .int 4), (.iload_n 1, .null), (.imul, .null), (.iconst 1, .int 1), (.iadd, .null)]
theorem ky_X10_prepareTrials_104_109 : zchk cX10_prepareTrials by_X10_prepareTrials_104_109 104 = true ∧ zpc by_X10_prepareTrials_104_109 104 = 109 := ⟨by decide +kernel, rfl⟩
abbrev by_X10_prepareTrials_110_111 : ZB := [(.aload_n 0, .null)]
theorem ky_X10_prepareTrials_110_111 : zchk cX10_prepareTrials by_X10_prepareTrials_110_111 110 = true ∧ zpc by_X10_prepareTrials_110_111 110 = 111 := ⟨by decide +kernel, rfl⟩
abbrev by_X10_prepareTrials_117_122 : ZB := [(.iconst 4, .int 4), (.iload_n 1, .null), (.imul, .null), (.iconst 3, .int 3), (.iadd, .null)]
theorem ky_X10_prepareTrials_117_122 : zchk cX10_prepareTrials by_X10_prepareTrials_117_122 117 = true ∧ zpc by_X10_prepareTrials_117_122 117 = 122 := ⟨by decide +kernel, rfl⟩
abbrev by_X10_prepareTrials_123_124 : ZB := [(.iconst 1, .int 1)]
theorem ky_X10_prepareTrials_123_124 : zchk cX10_prepareTrials by_X10_prepareTrials_123_124 123 = true ∧ zpc by_X10_prepareTrials_123_124 123 = 124 := ⟨by decide +kernel, rfl⟩
abbrev by_X10_prepareTrials_128_131 : ZB := [(.iinc 1 1, .int 1)]
theorem ky_X10_prepareTrials_128_131 : zchk cX10_prepareTrials by_X10_prepareTrials_128_131 128 = true ∧ zpc by_X10_prepareTrials_128_131 128 = 131 := ⟨by decide +kernel, rfl⟩
set_option maxHeartbeats 4000000 in
set_option maxRecDepth 100000 in
theorem cy_X10_prepareTrialsG (l : Launch) (G : KG) (x : Nat) (x_told : Value) (x_reader : Value) (x_ring : Value) (speeds : Nat) (x_wheel : Value) (trials : Nat) (x_span : Value) (x_search : Value) (x_kept : Value) (crosses : Nat) (x_trueMasses : Value) (thought : Nat) (x_up : Value) (x_low : Value) (x_fits : Value) (x_pulls : Value) (sc : Int32) (sf : Nat) (so : Nat) (sX0 : Value) (sX1 : Value) (sX2 : Value) (ff : Nat → Int32) (fo : Nat → Int32) (cr : Nat → Int32) (ft : Nat → Int32) (tc : Int32) (tsp : Nat) (twh : Nat) (tfi : Nat) (tse : Nat) (tgi : Nat) (tle : Nat) (tsc : Nat) (tbx : Nat) (tby : Nat) (fsp : Nat → Int32) (fwh : Nat → Int32) (ffi : Nat → Int32) (fse : Nat → Int32) (fgi : Nat → Int32) (fle : Nat → Int32) (fsc : Nat → Int32) (fbx : Nat → Int32) (fby : Nat → Int32) (tci : Int) (htc : tc.toInt = tci) (ht0 : 0 ≤ tci ∧ tci ≤ 12) (hsp : ∀ j : Nat, (j : Int) < tci → 0 ≤ (fsp j).toInt ∧ (fsp j).toInt < 6) : Ct l G yX10_prepareTrials cX10_prepareTrials 3 none { frames := 2, cells := 0, slots := 0, locals := 48 } [.ref x] [(x, ob 10 [x_told, x_reader, x_ring, .ref speeds, x_wheel, .ref trials, x_span, x_search, x_kept, .ref crosses, x_trueMasses, .ref thought, x_up, x_low, x_fits, x_pulls]), (speeds, ob 7 [.int sc, .ref sf, .ref so, sX0, sX1, sX2]), (sf, aI G 6 ff), (so, aI G 6 fo), (crosses, aI G 4 cr), (thought, aI G 8 ft), (trials, ob 9 [.int tc, .ref tsp, .ref twh, .ref tfi, .ref tse, .ref tgi, .ref tle, .ref tsc, .ref tbx, .ref tby]), (tsp, aI G 12 fsp), (twh, aZ G 12 fwh), (tfi, aI G 12 ffi), (tse, aI G 12 fse), (tgi, aI G 12 fgi), (tle, aI G 48 fle), (tsc, aI G 12 fsc), (tbx, aI G 12 fbx), (tby, aI G 12 fby)] (fun r w1 => ∃ (fsc2 : Nat → Int32), ∃ (fbx2 : Nat → Int32), ∃ (fby2 : Nat → Int32), (∀ j : Nat, (j : Int) < tci → fsc2 j = SCx ff cr fsp j ∧ fbx2 j = BXx 0 ff fo cr ft fsp fle j ∧ fby2 j = BXx 1 ff fo cr ft fsp fle j) ∧ r = none ∧ w1 = [(x, ob 10 [x_told, x_reader, x_ring, .ref speeds, x_wheel, .ref trials, x_span, x_search, x_kept, .ref crosses, x_trueMasses, .ref thought, x_up, x_low, x_fits, x_pulls]), (speeds, ob 7 [.int sc, .ref sf, .ref so, sX0, sX1, sX2]), (sf, aI G 6 ff), (so, aI G 6 fo), (crosses, aI G 4 cr), (thought, aI G 8 ft), (trials, ob 9 [.int tc, .ref tsp, .ref twh, .ref tfi, .ref tse, .ref tgi, .ref tle, .ref tsc, .ref tbx, .ref tby]), (tsp, aI G 12 fsp), (twh, aZ G 12 fwh), (tfi, aI G 12 ffi), (tse, aI G 12 fse), (tgi, aI G 12 fgi), (tle, aI G 48 fle), (tsc, aI G 12 fsc2), (tbx, aI G 12 fbx2), (tby, aI G 12 fby2)]) := by
  refine ct_of [(0, .ref x)] (by decide) (Nat.le_of_ble_eq_true rfl) rfl ?_
  intro p0 e0 s0 m0 args0 below0 meth0 c0 A X
  refine z_run X by_X10_prepareTrials_0_2 ky_X10_prepareTrials_0_2 (lv' := [(1, .int 0), (0, .ref x)]) (st' := []) rfl ?_
  refine zloop (σ := Int32 × (Nat → Int32) × (Nat → Int32) × (Nat → Int32)) (fun z => [(1, .int z.1), (0, .ref x)]) (fun z => []) (fun z => [(x, ob 10 [x_told, x_reader, x_ring, .ref speeds, x_wheel, .ref trials, x_span, x_search, x_kept, .ref crosses, x_trueMasses, .ref thought, x_up, x_low, x_fits, x_pulls]), (speeds, ob 7 [.int sc, .ref sf, .ref so, sX0, sX1, sX2]), (sf, aI G 6 ff), (so, aI G 6 fo), (crosses, aI G 4 cr), (thought, aI G 8 ft), (trials, ob 9 [.int tc, .ref tsp, .ref twh, .ref tfi, .ref tse, .ref tgi, .ref tle, .ref tsc, .ref tbx, .ref tby]), (tsp, aI G 12 fsp), (twh, aZ G 12 fwh), (tfi, aI G 12 ffi), (tse, aI G 12 fse), (tgi, aI G 12 fgi), (tle, aI G 48 fle), (tsc, aI G 12 z.2.1), (tbx, aI G 12 z.2.2.1), (tby, aI G 12 z.2.2.2)]) (fun z => (0 ≤ z.1.toInt ∧ z.1.toInt ≤ tci) ∧ (∀ j : Nat, (j : Int) < z.1.toInt → z.2.1 j = SCx ff cr fsp j ∧ z.2.2.1 j = BXx 0 ff fo cr ft fsp fle j ∧ z.2.2.2 j = BXx 1 ff fo cr ft fsp fle j)) (fun z => (tci - z.1.toInt).toNat) (0, fsc, fbx, fby) ?_ ?_
  ·
    rintro ⟨i_, g1, g2, g3⟩ ⟨hi, hG⟩ ih2
    dsimp only at *
    refine z_run X by_X10_prepareTrials_2_4 ky_X10_prepareTrials_2_4 (lv' := [(1, .int i_), (0, .ref x)]) (st' := [.ref x, .int i_]) rfl ?_
    refine z_get X fl_10_47 dy_X10_prepareTrials_4 0 rfl (v := .ref trials) rfl ?_
    refine z_getN X fl_10_206 dy_X10_prepareTrials_7 6 rfl (v := .int tc) rfl ?_
    refine zc_ge X dy_X10_prepareTrials_10 (tgt := 134) (by decide) (a := i_.toInt) (b := tci) rfl htc (fun c10_1 => ?_) (fun c10_1 => ?_)
    ·
      exact z_vret X rfl dy_X10_prepareTrials_134 (Nat.le_of_ble_eq_true rfl) (Nat.le_of_ble_eq_true rfl) ⟨g1, g2, g3, (fun j hj => hG j (by omega)), rfl, rfl⟩
    ·
      have hs_ : 0 ≤ (fsp i_.toNatClampNeg).toInt ∧ (fsp i_.toNatClampNeg).toInt < 6 := hsp i_.toNatClampNeg (show ((i_.toInt.toNat : Nat) : Int) < tci by omega)
      refine z_run X by_X10_prepareTrials_13_14 ky_X10_prepareTrials_13_14 (lv' := [(1, .int i_), (0, .ref x)]) (st' := [.ref x]) rfl ?_
      refine z_get X fl_10_47 dy_X10_prepareTrials_14 0 rfl (v := .ref trials) rfl ?_
      refine z_getN X fl_10_314 dy_X10_prepareTrials_17 6 rfl (v := .ref tsp) rfl ?_
      refine z_run X by_X10_prepareTrials_20_21 ky_X10_prepareTrials_20_21 (lv' := [(1, .int i_), (0, .ref x)]) (st' := [.int i_, .ref tsp]) rfl ?_
      refine z_iald X dy_X10_prepareTrials_21 7 rfl (vin rfl (by omega) (by omega)) (v := (fsp i_.toNatClampNeg)) rfl ?_
      refine z_run X by_X10_prepareTrials_22_24 ky_X10_prepareTrials_22_24 (lv' := [(2, .int (fsp i_.toNatClampNeg)), (1, .int i_), (0, .ref x)]) (st' := [.ref x]) rfl ?_
      refine z_get X fl_10_47 dy_X10_prepareTrials_24 0 rfl (v := .ref trials) rfl ?_
      refine z_getN X fl_10_317 dy_X10_prepareTrials_27 6 rfl (v := .ref tsc) rfl ?_
      refine z_run X by_X10_prepareTrials_30_32 ky_X10_prepareTrials_30_32 (lv' := [(2, .int (fsp i_.toNatClampNeg)), (1, .int i_), (0, .ref x)]) (st' := [.ref x, .int i_, .ref tsc]) rfl ?_
      refine z_get X fl_10_33 dy_X10_prepareTrials_32 0 rfl (v := .ref speeds) rfl ?_
      refine z_getN X fl_10_195 dy_X10_prepareTrials_35 1 rfl (v := .ref sf) rfl ?_
      refine z_run X by_X10_prepareTrials_38_39 ky_X10_prepareTrials_38_39 (lv' := [(2, .int (fsp i_.toNatClampNeg)), (1, .int i_), (0, .ref x)]) (st' := [.int (fsp i_.toNatClampNeg), .ref sf, .int i_, .ref tsc]) rfl ?_
      refine z_iald X dy_X10_prepareTrials_39 2 rfl (vin rfl (by omega) (by omega)) (v := (ff (fsp i_.toNatClampNeg).toNatClampNeg)) rfl ?_
      refine z_run X by_X10_prepareTrials_40_41 ky_X10_prepareTrials_40_41 (lv' := [(2, .int (fsp i_.toNatClampNeg)), (1, .int i_), (0, .ref x)]) (st' := [.ref x, .int (ff (fsp i_.toNatClampNeg).toNatClampNeg), .int i_, .ref tsc]) rfl ?_
      refine z_get X fl_10_71 dy_X10_prepareTrials_41 0 rfl (v := .ref crosses) rfl ?_
      refine z_run X by_X10_prepareTrials_44_45 ky_X10_prepareTrials_44_45 (lv' := [(2, .int (fsp i_.toNatClampNeg)), (1, .int i_), (0, .ref x)]) (st' := [.int 0, .ref crosses, .int (ff (fsp i_.toNatClampNeg).toNatClampNeg), .int i_, .ref tsc]) rfl ?_
      refine z_iald X dy_X10_prepareTrials_45 4 rfl (show vp_in _ _ from by unfold vp_in; decide) (v := (cr (0 : Int32).toNatClampNeg)) rfl ?_
      refine z_run X by_X10_prepareTrials_46_47 ky_X10_prepareTrials_46_47 (lv' := [(2, .int (fsp i_.toNatClampNeg)), (1, .int i_), (0, .ref x)]) (st' := [.int ((ff (fsp i_.toNatClampNeg).toNatClampNeg) * (cr (0 : Int32).toNatClampNeg)), .int i_, .ref tsc]) rfl ?_
      refine z_iast X dy_X10_prepareTrials_47 13 rfl (vin rfl (by omega) (by omega)) (ws' := [(x, ob 10 [x_told, x_reader, x_ring, .ref speeds, x_wheel, .ref trials, x_span, x_search, x_kept, .ref crosses, x_trueMasses, .ref thought, x_up, x_low, x_fits, x_pulls]), (speeds, ob 7 [.int sc, .ref sf, .ref so, sX0, sX1, sX2]), (sf, aI G 6 ff), (so, aI G 6 fo), (crosses, aI G 4 cr), (thought, aI G 8 ft), (trials, ob 9 [.int tc, .ref tsp, .ref twh, .ref tfi, .ref tse, .ref tgi, .ref tle, .ref tsc, .ref tbx, .ref tby]), (tsp, aI G 12 fsp), (twh, aZ G 12 fwh), (tfi, aI G 12 ffi), (tse, aI G 12 fse), (tgi, aI G 12 fgi), (tle, aI G 48 fle), (tsc, aI G 12 (upd g1 i_.toNatClampNeg ((ff (fsp i_.toNatClampNeg).toNatClampNeg) * (cr (0 : Int32).toNatClampNeg)))), (tbx, aI G 12 g2), (tby, aI G 12 g3)]) rfl ?_
      refine z_run X by_X10_prepareTrials_48_49 ky_X10_prepareTrials_48_49 (lv' := [(2, .int (fsp i_.toNatClampNeg)), (1, .int i_), (0, .ref x)]) (st' := [.ref x]) rfl ?_
      refine z_get X fl_10_47 dy_X10_prepareTrials_49 0 rfl (v := .ref trials) rfl ?_
      refine z_getN X fl_10_320 dy_X10_prepareTrials_52 6 rfl (v := .ref tbx) rfl ?_
      refine z_run X by_X10_prepareTrials_55_59 ky_X10_prepareTrials_55_59 (lv' := [(2, .int (fsp i_.toNatClampNeg)), (1, .int i_), (0, .ref x)]) (st' := [.ref x, .int (fsp i_.toNatClampNeg), .ref x, .int i_, .ref tbx]) rfl ?_
      refine z_get X fl_10_47 dy_X10_prepareTrials_59 0 rfl (v := .ref trials) rfl ?_
      refine z_getN X fl_10_323 dy_X10_prepareTrials_62 6 rfl (v := .ref tle) rfl ?_
      refine z_run X by_X10_prepareTrials_65_68 ky_X10_prepareTrials_65_68 (lv' := [(2, .int (fsp i_.toNatClampNeg)), (1, .int i_), (0, .ref x)]) (st' := [.int (4 * i_), .ref tle, .int (fsp i_.toNatClampNeg), .ref x, .int i_, .ref tbx]) rfl ?_
      refine z_iald X dy_X10_prepareTrials_68 12 rfl (vin (tI_mul (show (4 : Int32).toInt = 4 from by decide) rfl (by omega)) (by omega) (by omega)) (v := (fle (4 * i_).toNatClampNeg)) rfl ?_
      refine z_run X by_X10_prepareTrials_69_70 ky_X10_prepareTrials_69_70 (lv' := [(2, .int (fsp i_.toNatClampNeg)), (1, .int i_), (0, .ref x)]) (st' := [.ref x, .int (fle (4 * i_).toNatClampNeg), .int (fsp i_.toNatClampNeg), .ref x, .int i_, .ref tbx]) rfl ?_
      refine z_get X fl_10_47 dy_X10_prepareTrials_70 0 rfl (v := .ref trials) rfl ?_
      refine z_getN X fl_10_323 dy_X10_prepareTrials_73 6 rfl (v := .ref tle) rfl ?_
      refine z_run X by_X10_prepareTrials_76_81 ky_X10_prepareTrials_76_81 (lv' := [(2, .int (fsp i_.toNatClampNeg)), (1, .int i_), (0, .ref x)]) (st' := [.int ((4 * i_) + 2), .ref tle, .int (fle (4 * i_).toNatClampNeg), .int (fsp i_.toNatClampNeg), .ref x, .int i_, .ref tbx]) rfl ?_
      refine z_iald X dy_X10_prepareTrials_81 12 rfl (vin (tI_add (tI_mul (show (4 : Int32).toInt = 4 from by decide) rfl (by omega)) (show (2 : Int32).toInt = 2 from by decide) (by omega)) (by omega) (by omega)) (v := (fle ((4 * i_) + 2).toNatClampNeg)) rfl ?_
      refine z_run X by_X10_prepareTrials_82_83 ky_X10_prepareTrials_82_83 (lv' := [(2, .int (fsp i_.toNatClampNeg)), (1, .int i_), (0, .ref x)]) (st' := [.int 0, .int (fle ((4 * i_) + 2).toNatClampNeg), .int (fle (4 * i_).toNatClampNeg), .int (fsp i_.toNatClampNeg), .ref x, .int i_, .ref tbx]) rfl ?_
      refine z_callV X k_10_306 (cy_X10_feltBarePullG l G x x_told x_reader x_ring speeds x_wheel (.ref trials) x_span x_search x_kept crosses x_trueMasses thought x_up x_low x_fits x_pulls sc sf so sX0 sX1 sX2 ff fo cr ft (fsp i_.toNatClampNeg) (fle (4 * i_).toNatClampNeg) (fle ((4 * i_) + 2).toNatClampNeg) 0 ((fsp i_.toNatClampNeg).toInt) 0 rfl (show (0 : Int32).toInt = 0 from by decide) (by omega) (by omega)) dy_X10_prepareTrials_83 0 rfl rfl rfl ⟨Nat.le_of_ble_eq_true rfl, Nat.le_of_ble_eq_true rfl⟩ ⟨Nat.le_of_ble_eq_true rfl, Nat.le_of_ble_eq_true rfl⟩ rfl (rest := [.int i_, .ref tbx]) (As := [.int (fsp i_.toNatClampNeg), .int (fle (4 * i_).toNatClampNeg), .int (fle ((4 * i_) + 2).toNatClampNeg), .int 0]) rfl (Nat.le_of_ble_eq_true rfl) [0, 1, 2, 3, 4, 5] [6, 7, 8, 9, 10, 11, 12, 13, 14, 15] rfl (by decide) (wr := [(trials, ob 9 [.int tc, .ref tsp, .ref twh, .ref tfi, .ref tse, .ref tgi, .ref tle, .ref tsc, .ref tbx, .ref tby]), (tsp, aI G 12 fsp), (twh, aZ G 12 fwh), (tfi, aI G 12 ffi), (tse, aI G 12 fse), (tgi, aI G 12 fgi), (tle, aI G 48 fle), (tsc, aI G 12 (upd g1 i_.toNatClampNeg ((ff (fsp i_.toNatClampNeg).toNatClampNeg) * (cr (0 : Int32).toNatClampNeg)))), (tbx, aI G 12 g2), (tby, aI G 12 g3)]) rfl (by decide) (by decide) ?_
      rintro _ _ ⟨rz_2, f83_3, rfl, rfl⟩
      refine Z.at (pc' := 86) (st' := [.int rz_2, .int i_, .ref tbx]) (ws' := [(trials, ob 9 [.int tc, .ref tsp, .ref twh, .ref tfi, .ref tse, .ref tgi, .ref tle, .ref tsc, .ref tbx, .ref tby]), (tsp, aI G 12 fsp), (twh, aZ G 12 fwh), (tfi, aI G 12 ffi), (tse, aI G 12 fse), (tgi, aI G 12 fgi), (tle, aI G 48 fle), (tsc, aI G 12 (upd g1 i_.toNatClampNeg ((ff (fsp i_.toNatClampNeg).toNatClampNeg) * (cr (0 : Int32).toNatClampNeg)))), (tbx, aI G 12 g2), (tby, aI G 12 g3), (x, ob 10 [x_told, x_reader, x_ring, .ref speeds, x_wheel, .ref trials, x_span, x_search, x_kept, .ref crosses, x_trueMasses, .ref thought, x_up, x_low, x_fits, x_pulls]), (speeds, ob 7 [.int sc, .ref sf, .ref so, sX0, sX1, sX2]), (sf, aI G 6 ff), (so, aI G 6 fo), (crosses, aI G 4 cr), (thought, aI G 8 ft)]) (kc' := 0) (ks' := 0) rfl rfl rfl rfl rfl ?_
      refine z_iast X dy_X10_prepareTrials_86 8 rfl (vin rfl (by omega) (by omega)) (ws' := [(trials, ob 9 [.int tc, .ref tsp, .ref twh, .ref tfi, .ref tse, .ref tgi, .ref tle, .ref tsc, .ref tbx, .ref tby]), (tsp, aI G 12 fsp), (twh, aZ G 12 fwh), (tfi, aI G 12 ffi), (tse, aI G 12 fse), (tgi, aI G 12 fgi), (tle, aI G 48 fle), (tsc, aI G 12 (upd g1 i_.toNatClampNeg ((ff (fsp i_.toNatClampNeg).toNatClampNeg) * (cr (0 : Int32).toNatClampNeg)))), (tbx, aI G 12 (upd g2 i_.toNatClampNeg rz_2)), (tby, aI G 12 g3), (x, ob 10 [x_told, x_reader, x_ring, .ref speeds, x_wheel, .ref trials, x_span, x_search, x_kept, .ref crosses, x_trueMasses, .ref thought, x_up, x_low, x_fits, x_pulls]), (speeds, ob 7 [.int sc, .ref sf, .ref so, sX0, sX1, sX2]), (sf, aI G 6 ff), (so, aI G 6 fo), (crosses, aI G 4 cr), (thought, aI G 8 ft)]) rfl ?_
      refine z_run X by_X10_prepareTrials_87_88 ky_X10_prepareTrials_87_88 (lv' := [(2, .int (fsp i_.toNatClampNeg)), (1, .int i_), (0, .ref x)]) (st' := [.ref x]) rfl ?_
      refine z_get X fl_10_47 dy_X10_prepareTrials_88 10 rfl (v := .ref trials) rfl ?_
      refine z_getN X fl_10_326 dy_X10_prepareTrials_91 0 rfl (v := .ref tby) rfl ?_
      refine z_run X by_X10_prepareTrials_94_98 ky_X10_prepareTrials_94_98 (lv' := [(2, .int (fsp i_.toNatClampNeg)), (1, .int i_), (0, .ref x)]) (st' := [.ref x, .int (fsp i_.toNatClampNeg), .ref x, .int i_, .ref tby]) rfl ?_
      refine z_get X fl_10_47 dy_X10_prepareTrials_98 10 rfl (v := .ref trials) rfl ?_
      refine z_getN X fl_10_323 dy_X10_prepareTrials_101 0 rfl (v := .ref tle) rfl ?_
      refine z_run X by_X10_prepareTrials_104_109 ky_X10_prepareTrials_104_109 (lv' := [(2, .int (fsp i_.toNatClampNeg)), (1, .int i_), (0, .ref x)]) (st' := [.int ((4 * i_) + 1), .ref tle, .int (fsp i_.toNatClampNeg), .ref x, .int i_, .ref tby]) rfl ?_
      refine z_iald X dy_X10_prepareTrials_109 6 rfl (vin (tI_add (tI_mul (show (4 : Int32).toInt = 4 from by decide) rfl (by omega)) (show (1 : Int32).toInt = 1 from by decide) (by omega)) (by omega) (by omega)) (v := (fle ((4 * i_) + 1).toNatClampNeg)) rfl ?_
      refine z_run X by_X10_prepareTrials_110_111 ky_X10_prepareTrials_110_111 (lv' := [(2, .int (fsp i_.toNatClampNeg)), (1, .int i_), (0, .ref x)]) (st' := [.ref x, .int (fle ((4 * i_) + 1).toNatClampNeg), .int (fsp i_.toNatClampNeg), .ref x, .int i_, .ref tby]) rfl ?_
      refine z_get X fl_10_47 dy_X10_prepareTrials_111 10 rfl (v := .ref trials) rfl ?_
      refine z_getN X fl_10_323 dy_X10_prepareTrials_114 0 rfl (v := .ref tle) rfl ?_
      refine z_run X by_X10_prepareTrials_117_122 ky_X10_prepareTrials_117_122 (lv' := [(2, .int (fsp i_.toNatClampNeg)), (1, .int i_), (0, .ref x)]) (st' := [.int ((4 * i_) + 3), .ref tle, .int (fle ((4 * i_) + 1).toNatClampNeg), .int (fsp i_.toNatClampNeg), .ref x, .int i_, .ref tby]) rfl ?_
      refine z_iald X dy_X10_prepareTrials_122 6 rfl (vin (tI_add (tI_mul (show (4 : Int32).toInt = 4 from by decide) rfl (by omega)) (show (3 : Int32).toInt = 3 from by decide) (by omega)) (by omega) (by omega)) (v := (fle ((4 * i_) + 3).toNatClampNeg)) rfl ?_
      refine z_run X by_X10_prepareTrials_123_124 ky_X10_prepareTrials_123_124 (lv' := [(2, .int (fsp i_.toNatClampNeg)), (1, .int i_), (0, .ref x)]) (st' := [.int 1, .int (fle ((4 * i_) + 3).toNatClampNeg), .int (fle ((4 * i_) + 1).toNatClampNeg), .int (fsp i_.toNatClampNeg), .ref x, .int i_, .ref tby]) rfl ?_
      refine z_callV X k_10_306 (cy_X10_feltBarePullG l G x x_told x_reader x_ring speeds x_wheel (.ref trials) x_span x_search x_kept crosses x_trueMasses thought x_up x_low x_fits x_pulls sc sf so sX0 sX1 sX2 ff fo cr ft (fsp i_.toNatClampNeg) (fle ((4 * i_) + 1).toNatClampNeg) (fle ((4 * i_) + 3).toNatClampNeg) 1 ((fsp i_.toNatClampNeg).toInt) 1 rfl (show (1 : Int32).toInt = 1 from by decide) (by omega) (by omega)) dy_X10_prepareTrials_124 10 rfl rfl rfl ⟨Nat.le_of_ble_eq_true rfl, Nat.le_of_ble_eq_true rfl⟩ ⟨Nat.le_of_ble_eq_true rfl, Nat.le_of_ble_eq_true rfl⟩ rfl (rest := [.int i_, .ref tby]) (As := [.int (fsp i_.toNatClampNeg), .int (fle ((4 * i_) + 1).toNatClampNeg), .int (fle ((4 * i_) + 3).toNatClampNeg), .int 1]) rfl (Nat.le_of_ble_eq_true rfl) [10, 11, 12, 13, 14, 15] [0, 1, 2, 3, 4, 5, 6, 7, 8, 9] rfl (by decide) (wr := [(trials, ob 9 [.int tc, .ref tsp, .ref twh, .ref tfi, .ref tse, .ref tgi, .ref tle, .ref tsc, .ref tbx, .ref tby]), (tsp, aI G 12 fsp), (twh, aZ G 12 fwh), (tfi, aI G 12 ffi), (tse, aI G 12 fse), (tgi, aI G 12 fgi), (tle, aI G 48 fle), (tsc, aI G 12 (upd g1 i_.toNatClampNeg ((ff (fsp i_.toNatClampNeg).toNatClampNeg) * (cr (0 : Int32).toNatClampNeg)))), (tbx, aI G 12 (upd g2 i_.toNatClampNeg rz_2)), (tby, aI G 12 g3)]) rfl (by decide) (by decide) ?_
      rintro _ _ ⟨rz_4, f124_5, rfl, rfl⟩
      refine Z.at (pc' := 127) (st' := [.int rz_4, .int i_, .ref tby]) (ws' := [(trials, ob 9 [.int tc, .ref tsp, .ref twh, .ref tfi, .ref tse, .ref tgi, .ref tle, .ref tsc, .ref tbx, .ref tby]), (tsp, aI G 12 fsp), (twh, aZ G 12 fwh), (tfi, aI G 12 ffi), (tse, aI G 12 fse), (tgi, aI G 12 fgi), (tle, aI G 48 fle), (tsc, aI G 12 (upd g1 i_.toNatClampNeg ((ff (fsp i_.toNatClampNeg).toNatClampNeg) * (cr (0 : Int32).toNatClampNeg)))), (tbx, aI G 12 (upd g2 i_.toNatClampNeg rz_2)), (tby, aI G 12 g3), (x, ob 10 [x_told, x_reader, x_ring, .ref speeds, x_wheel, .ref trials, x_span, x_search, x_kept, .ref crosses, x_trueMasses, .ref thought, x_up, x_low, x_fits, x_pulls]), (speeds, ob 7 [.int sc, .ref sf, .ref so, sX0, sX1, sX2]), (sf, aI G 6 ff), (so, aI G 6 fo), (crosses, aI G 4 cr), (thought, aI G 8 ft)]) (kc' := 0) (ks' := 0) rfl rfl rfl rfl rfl ?_
      refine z_iast X dy_X10_prepareTrials_127 9 rfl (vin rfl (by omega) (by omega)) (ws' := [(trials, ob 9 [.int tc, .ref tsp, .ref twh, .ref tfi, .ref tse, .ref tgi, .ref tle, .ref tsc, .ref tbx, .ref tby]), (tsp, aI G 12 fsp), (twh, aZ G 12 fwh), (tfi, aI G 12 ffi), (tse, aI G 12 fse), (tgi, aI G 12 fgi), (tle, aI G 48 fle), (tsc, aI G 12 (upd g1 i_.toNatClampNeg ((ff (fsp i_.toNatClampNeg).toNatClampNeg) * (cr (0 : Int32).toNatClampNeg)))), (tbx, aI G 12 (upd g2 i_.toNatClampNeg rz_2)), (tby, aI G 12 (upd g3 i_.toNatClampNeg rz_4)), (x, ob 10 [x_told, x_reader, x_ring, .ref speeds, x_wheel, .ref trials, x_span, x_search, x_kept, .ref crosses, x_trueMasses, .ref thought, x_up, x_low, x_fits, x_pulls]), (speeds, ob 7 [.int sc, .ref sf, .ref so, sX0, sX1, sX2]), (sf, aI G 6 ff), (so, aI G 6 fo), (crosses, aI G 4 cr), (thought, aI G 8 ft)]) rfl ?_
      refine z_run X by_X10_prepareTrials_128_131 ky_X10_prepareTrials_128_131 (lv' := [(1, .int (i_ + 1)), (2, .int (fsp i_.toNatClampNeg)), (0, .ref x)]) (st' := []) rfl ?_
      refine z_goto X dy_X10_prepareTrials_131 (tgt := 2) (by decide) ?_
      refine Z.sub (lv' := [(1, .int (i_ + 1)), (0, .ref x)]) [0, 2] rfl [10, 11, 12, 13, 14, 15, 0, 1, 2, 3, 4, 5, 6, 7, 8, 9] (ws' := [(x, ob 10 [x_told, x_reader, x_ring, .ref speeds, x_wheel, .ref trials, x_span, x_search, x_kept, .ref crosses, x_trueMasses, .ref thought, x_up, x_low, x_fits, x_pulls]), (speeds, ob 7 [.int sc, .ref sf, .ref so, sX0, sX1, sX2]), (sf, aI G 6 ff), (so, aI G 6 fo), (crosses, aI G 4 cr), (thought, aI G 8 ft), (trials, ob 9 [.int tc, .ref tsp, .ref twh, .ref tfi, .ref tse, .ref tgi, .ref tle, .ref tsc, .ref tbx, .ref tby]), (tsp, aI G 12 fsp), (twh, aZ G 12 fwh), (tfi, aI G 12 ffi), (tse, aI G 12 fse), (tgi, aI G 12 fgi), (tle, aI G 48 fle), (tsc, aI G 12 (upd g1 i_.toNatClampNeg ((ff (fsp i_.toNatClampNeg).toNatClampNeg) * (cr (0 : Int32).toNatClampNeg)))), (tbx, aI G 12 (upd g2 i_.toNatClampNeg rz_2)), (tby, aI G 12 (upd g3 i_.toNatClampNeg rz_4))]) rfl (by decide) ?_
      exact ih2 ((i_ + 1), (upd g1 i_.toNatClampNeg ((ff (fsp i_.toNatClampNeg).toNatClampNeg) * (cr (0 : Int32).toNatClampNeg))), (upd g2 i_.toNatClampNeg rz_2), (upd g3 i_.toNatClampNeg rz_4)) ⟨(by (try dsimp only); have e : (i_ + 1).toInt = i_.toInt + 1 := tI_add rfl (show (1 : Int32).toInt = 1 from by decide) (by omega); omega), (by (try dsimp only); have e : (i_ + 1).toInt = i_.toInt + 1 := tI_add rfl (show (1 : Int32).toInt = 1 from by decide) (by omega); rw [e]; exact st3 hi.1 hG rfl (by obtain ⟨y0, y1, y2, y3⟩ := ix4 (i := i_) (by omega); rw [f83_3]; unfold BXx; rw [show (4 * i_.toInt.toNat + 0) = ((4 * i_)).toNatClampNeg from y0.symm, show (4 * i_.toInt.toNat + 2 + 0) = (((4 * i_) + 2)).toNatClampNeg from y2.symm]; rfl) (by obtain ⟨y0, y1, y2, y3⟩ := ix4 (i := i_) (by omega); rw [f124_5]; unfold BXx; rw [show (4 * i_.toInt.toNat + 1) = (((4 * i_) + 1)).toNatClampNeg from y1.symm, show (4 * i_.toInt.toNat + 2 + 1) = (((4 * i_) + 3)).toNatClampNeg from y3.symm]; rfl))⟩ (by (try dsimp only); have e : (i_ + 1).toInt = i_.toInt + 1 := tI_add rfl (show (1 : Int32).toInt = 1 from by decide) (by omega); omega)
  · exact ⟨(by (try dsimp only); have e0 : (0 : Int32).toInt = 0 := (by decide); omega), (by (try dsimp only); have e0 : (0 : Int32).toInt = 0 := (by decide); intro j hj; omega)⟩

theorem dy_X10_judge_3 : decode cX10_judge 3 = .ok (.invokestatic 159, 3) := by decide +kernel
theorem dy_X10_judge_6 : decode cX10_judge 6 = .ok (.ifCond .eq 12, 3) := by decide +kernel
theorem dy_X10_judge_19 : decode cX10_judge 19 = .ok (.ireturn, 1) := by decide +kernel
theorem dy_X10_judge_12 : decode cX10_judge 12 = .ok (.invokestatic 159, 3) := by decide +kernel
theorem dy_X10_judge_15 : decode cX10_judge 15 = .ok (.ifCond .ne 5, 3) := by decide +kernel
theorem dy_X10_judge_21 : decode cX10_judge 21 = .ok (.invokevirtual 242, 3) := by decide +kernel
theorem dy_X10_judge_25 : decode cX10_judge 25 = .ok (.getfield 47, 3) := by decide +kernel
theorem dy_X10_judge_30 : decode cX10_judge 30 = .ok (.invokevirtual 246, 3) := by decide +kernel
theorem dy_X10_judge_33 : decode cX10_judge 33 = .ok (.ireturn, 1) := by decide +kernel
abbrev by_X10_judge_0_3 : ZB := [(.iload_n 1, .null), (.bipush 60, .int 60)]
theorem ky_X10_judge_0_3 : zchk cX10_judge by_X10_judge_0_3 0 = true ∧ zpc by_X10_judge_0_3 0 = 3 := ⟨by decide +kernel, rfl⟩
abbrev by_X10_judge_18_19 : ZB := [(.iconst (-1), .int (-1))]
theorem ky_X10_judge_18_19 : zchk cX10_judge by_X10_judge_18_19 18 = true ∧ zpc by_X10_judge_18_19 18 = 19 := ⟨by decide +kernel, rfl⟩
abbrev by_X10_judge_9_12 : ZB := [(.iload_n 2, .null), (.bipush 60, .int 60)]
theorem ky_X10_judge_9_12 : zchk cX10_judge by_X10_judge_9_12 9 = true ∧ zpc by_X10_judge_9_12 9 = 12 := ⟨by decide +kernel, rfl⟩
abbrev by_X10_judge_20_21 : ZB := [(.aload_n 0, .null)]
theorem ky_X10_judge_20_21 : zchk cX10_judge by_X10_judge_20_21 20 = true ∧ zpc by_X10_judge_20_21 20 = 21 := ⟨by decide +kernel, rfl⟩
abbrev by_X10_judge_24_25 : ZB := [(.aload_n 0, .null)]
theorem ky_X10_judge_24_25 : zchk cX10_judge by_X10_judge_24_25 24 = true ∧ zpc by_X10_judge_24_25 24 = 25 := ⟨by decide +kernel, rfl⟩
abbrev by_X10_judge_28_30 : ZB := [(.iload_n 1, .null), (.iload_n 2, .null)]
theorem ky_X10_judge_28_30 : zchk cX10_judge by_X10_judge_28_30 28 = true ∧ zpc by_X10_judge_28_30 28 = 30 := ⟨by decide +kernel, rfl⟩
set_option maxHeartbeats 4000000 in
set_option maxRecDepth 100000 in
theorem cy_X10_judgeG (l : Launch) (G : KG) (x : Nat) (x_told : Value) (x_reader : Value) (x_ring : Value) (speeds : Nat) (x_wheel : Value) (trials : Nat) (x_span : Value) (x_search : Value) (x_kept : Value) (crosses : Nat) (x_trueMasses : Value) (thought : Nat) (x_up : Value) (x_low : Value) (x_fits : Value) (x_pulls : Value) (sc : Int32) (sf : Nat) (so : Nat) (sX0 : Value) (sX1 : Value) (sX2 : Value) (ff : Nat → Int32) (fo : Nat → Int32) (cr : Nat → Int32) (ft : Nat → Int32) (tc : Int32) (tsp : Nat) (twh : Nat) (tfi : Nat) (tse : Nat) (tgi : Nat) (tle : Nat) (tsc : Nat) (tbx : Nat) (tby : Nat) (fsp : Nat → Int32) (fwh : Nat → Int32) (ffi : Nat → Int32) (fse : Nat → Int32) (fgi : Nat → Int32) (fle : Nat → Int32) (fsc : Nat → Int32) (fbx : Nat → Int32) (fby : Nat → Int32) (xq : Int32) (yq : Int32) (tci : Int) (xi : Int) (yi : Int) (htc : tc.toInt = tci) (hxq : xq.toInt = xi) (hyq : yq.toInt = yi) (ht0 : 0 ≤ tci ∧ tci ≤ 12) (hsp : ∀ j : Nat, (j : Int) < tci → 0 ≤ (fsp j).toInt ∧ (fsp j).toInt < 6) (hg : ∀ j : Nat, (j : Int) < tci → 0 ≤ (fgi j).toInt ∧ (fgi j).toInt ≤ 1000000) : Ct l G yX10_judge cX10_judge 3 (some .int) { frames := 3, cells := 0, slots := 0, locals := 73 } [.ref x, .int xq, .int yq] [(x, ob 10 [x_told, x_reader, x_ring, .ref speeds, x_wheel, .ref trials, x_span, x_search, x_kept, .ref crosses, x_trueMasses, .ref thought, x_up, x_low, x_fits, x_pulls]), (speeds, ob 7 [.int sc, .ref sf, .ref so, sX0, sX1, sX2]), (sf, aI G 6 ff), (so, aI G 6 fo), (crosses, aI G 4 cr), (thought, aI G 8 ft), (trials, ob 9 [.int tc, .ref tsp, .ref twh, .ref tfi, .ref tse, .ref tgi, .ref tle, .ref tsc, .ref tbx, .ref tby]), (tsp, aI G 12 fsp), (twh, aZ G 12 fwh), (tfi, aI G 12 ffi), (tse, aI G 12 fse), (tgi, aI G 12 fgi), (tle, aI G 48 fle), (tsc, aI G 12 fsc), (tbx, aI G 12 fbx), (tby, aI G 12 fby)] (fun r _ => ∃ (rz : Int32), (rz.toInt = mJudge xi yi (fa (AGx ff fo cr ft (tr6 fsp fwh ffi fse fgi fle) xq yq) tci.toNat 0)) ∧ r = some (.int rz)) := by
  refine ct_of [(0, .ref x), (1, .int xq), (2, .int yq)] (by decide) (Nat.le_of_ble_eq_true rfl) rfl ?_
  intro p0 e0 s0 m0 args0 below0 meth0 c0 A X
  refine z_run X by_X10_judge_0_3 ky_X10_judge_0_3 (lv' := [(0, .ref x), (1, .int xq), (2, .int yq)]) (st' := [.int 60, .int xq]) rfl ?_
  refine z_callS X k_10_159 (cy_X10_isWithinG l G xq 60 60 (show (60 : Int32).toInt = 60 from by decide) (by omega)) dy_X10_judge_3 ⟨Nat.le_of_ble_eq_true rfl, Nat.le_of_ble_eq_true rfl⟩ ⟨Nat.le_of_ble_eq_true rfl, Nat.le_of_ble_eq_true rfl⟩ rfl (rest := []) (As := [.int xq, .int 60]) rfl (Nat.le_of_ble_eq_true rfl) [] [0, 1, 2, 3, 4, 5, 6, 7, 8, 9, 10, 11, 12, 13, 14, 15] rfl (by decide) (wr := [(x, ob 10 [x_told, x_reader, x_ring, .ref speeds, x_wheel, .ref trials, x_span, x_search, x_kept, .ref crosses, x_trueMasses, .ref thought, x_up, x_low, x_fits, x_pulls]), (speeds, ob 7 [.int sc, .ref sf, .ref so, sX0, sX1, sX2]), (sf, aI G 6 ff), (so, aI G 6 fo), (crosses, aI G 4 cr), (thought, aI G 8 ft), (trials, ob 9 [.int tc, .ref tsp, .ref twh, .ref tfi, .ref tse, .ref tgi, .ref tle, .ref tsc, .ref tbx, .ref tby]), (tsp, aI G 12 fsp), (twh, aZ G 12 fwh), (tfi, aI G 12 ffi), (tse, aI G 12 fse), (tgi, aI G 12 fgi), (tle, aI G 48 fle), (tsc, aI G 12 fsc), (tbx, aI G 12 fbx), (tby, aI G 12 fby)]) rfl (by decide) (by decide) ?_
  rintro _ _ ⟨rfl, rfl⟩
  refine Z.at (pc' := 6) (st' := [.int (zb (decide (-60 ≤ xq.toInt ∧ xq.toInt ≤ 60)))]) (ws' := [(x, ob 10 [x_told, x_reader, x_ring, .ref speeds, x_wheel, .ref trials, x_span, x_search, x_kept, .ref crosses, x_trueMasses, .ref thought, x_up, x_low, x_fits, x_pulls]), (speeds, ob 7 [.int sc, .ref sf, .ref so, sX0, sX1, sX2]), (sf, aI G 6 ff), (so, aI G 6 fo), (crosses, aI G 4 cr), (thought, aI G 8 ft), (trials, ob 9 [.int tc, .ref tsp, .ref twh, .ref tfi, .ref tse, .ref tgi, .ref tle, .ref tsc, .ref tbx, .ref tby]), (tsp, aI G 12 fsp), (twh, aZ G 12 fwh), (tfi, aI G 12 ffi), (tse, aI G 12 fse), (tgi, aI G 12 fgi), (tle, aI G 48 fle), (tsc, aI G 12 fsc), (tbx, aI G 12 fbx), (tby, aI G 12 fby)]) (kc' := 0) (ks' := 0) rfl rfl rfl rfl rfl ?_
  refine zi_eq_zb X dy_X10_judge_6 (tgt := 18) (by decide) (fun c6_1 => ?_) (fun c6_1 => ?_)
  ·
    refine z_run X by_X10_judge_18_19 ky_X10_judge_18_19 (lv' := [(0, .ref x), (1, .int xq), (2, .int yq)]) (st' := [.int (-1)]) rfl ?_
    exact z_iret X rfl dy_X10_judge_19 (Nat.le_of_ble_eq_true rfl) (Nat.le_of_ble_eq_true rfl) ⟨((-1) : Int32), ((show (-1 : Int32).toInt = -1 from by decide).trans (mJudge_no (by omega)).symm), rfl⟩
  ·
    refine z_run X by_X10_judge_9_12 ky_X10_judge_9_12 (lv' := [(0, .ref x), (1, .int xq), (2, .int yq)]) (st' := [.int 60, .int yq]) rfl ?_
    refine z_callS X k_10_159 (cy_X10_isWithinG l G yq 60 60 (show (60 : Int32).toInt = 60 from by decide) (by omega)) dy_X10_judge_12 ⟨Nat.le_of_ble_eq_true rfl, Nat.le_of_ble_eq_true rfl⟩ ⟨Nat.le_of_ble_eq_true rfl, Nat.le_of_ble_eq_true rfl⟩ rfl (rest := []) (As := [.int yq, .int 60]) rfl (Nat.le_of_ble_eq_true rfl) [] [0, 1, 2, 3, 4, 5, 6, 7, 8, 9, 10, 11, 12, 13, 14, 15] rfl (by decide) (wr := [(x, ob 10 [x_told, x_reader, x_ring, .ref speeds, x_wheel, .ref trials, x_span, x_search, x_kept, .ref crosses, x_trueMasses, .ref thought, x_up, x_low, x_fits, x_pulls]), (speeds, ob 7 [.int sc, .ref sf, .ref so, sX0, sX1, sX2]), (sf, aI G 6 ff), (so, aI G 6 fo), (crosses, aI G 4 cr), (thought, aI G 8 ft), (trials, ob 9 [.int tc, .ref tsp, .ref twh, .ref tfi, .ref tse, .ref tgi, .ref tle, .ref tsc, .ref tbx, .ref tby]), (tsp, aI G 12 fsp), (twh, aZ G 12 fwh), (tfi, aI G 12 ffi), (tse, aI G 12 fse), (tgi, aI G 12 fgi), (tle, aI G 48 fle), (tsc, aI G 12 fsc), (tbx, aI G 12 fbx), (tby, aI G 12 fby)]) rfl (by decide) (by decide) ?_
    rintro _ _ ⟨rfl, rfl⟩
    refine Z.at (pc' := 15) (st' := [.int (zb (decide (-60 ≤ yq.toInt ∧ yq.toInt ≤ 60)))]) (ws' := [(x, ob 10 [x_told, x_reader, x_ring, .ref speeds, x_wheel, .ref trials, x_span, x_search, x_kept, .ref crosses, x_trueMasses, .ref thought, x_up, x_low, x_fits, x_pulls]), (speeds, ob 7 [.int sc, .ref sf, .ref so, sX0, sX1, sX2]), (sf, aI G 6 ff), (so, aI G 6 fo), (crosses, aI G 4 cr), (thought, aI G 8 ft), (trials, ob 9 [.int tc, .ref tsp, .ref twh, .ref tfi, .ref tse, .ref tgi, .ref tle, .ref tsc, .ref tbx, .ref tby]), (tsp, aI G 12 fsp), (twh, aZ G 12 fwh), (tfi, aI G 12 ffi), (tse, aI G 12 fse), (tgi, aI G 12 fgi), (tle, aI G 48 fle), (tsc, aI G 12 fsc), (tbx, aI G 12 fbx), (tby, aI G 12 fby)]) (kc' := 0) (ks' := 0) rfl rfl rfl rfl rfl ?_
    refine zi_ne_zb X dy_X10_judge_15 (tgt := 20) (by decide) (fun c15_2 => ?_) (fun c15_2 => ?_)
    ·
      refine z_run X by_X10_judge_20_21 ky_X10_judge_20_21 (lv' := [(0, .ref x), (1, .int xq), (2, .int yq)]) (st' := [.ref x]) rfl ?_
      refine z_callV X k_10_242 (cy_X10_prepareTrialsG l G x x_told x_reader x_ring speeds x_wheel trials x_span x_search x_kept crosses x_trueMasses thought x_up x_low x_fits x_pulls sc sf so sX0 sX1 sX2 ff fo cr ft tc tsp twh tfi tse tgi tle tsc tbx tby fsp fwh ffi fse fgi fle fsc fbx fby tci htc (by omega) (by omega)) dy_X10_judge_21 0 rfl rfl rfl ⟨Nat.le_of_ble_eq_true rfl, Nat.le_of_ble_eq_true rfl⟩ ⟨Nat.le_of_ble_eq_true rfl, Nat.le_of_ble_eq_true rfl⟩ rfl (rest := []) (As := []) rfl (Nat.le_of_ble_eq_true rfl) [0, 1, 2, 3, 4, 5, 6, 7, 8, 9, 10, 11, 12, 13, 14, 15] [] rfl (by decide) (wr := []) rfl (by decide) (by decide) ?_
      rintro _ _ ⟨fsc2_3, fbx2_4, fby2_5, f21_6, rfl, rfl⟩
      refine Z.at (pc' := 24) (st' := []) (ws' := [(x, ob 10 [x_told, x_reader, x_ring, .ref speeds, x_wheel, .ref trials, x_span, x_search, x_kept, .ref crosses, x_trueMasses, .ref thought, x_up, x_low, x_fits, x_pulls]), (speeds, ob 7 [.int sc, .ref sf, .ref so, sX0, sX1, sX2]), (sf, aI G 6 ff), (so, aI G 6 fo), (crosses, aI G 4 cr), (thought, aI G 8 ft), (trials, ob 9 [.int tc, .ref tsp, .ref twh, .ref tfi, .ref tse, .ref tgi, .ref tle, .ref tsc, .ref tbx, .ref tby]), (tsp, aI G 12 fsp), (twh, aZ G 12 fwh), (tfi, aI G 12 ffi), (tse, aI G 12 fse), (tgi, aI G 12 fgi), (tle, aI G 48 fle), (tsc, aI G 12 fsc2_3), (tbx, aI G 12 fbx2_4), (tby, aI G 12 fby2_5)]) (kc' := 0) (ks' := 0) rfl rfl rfl rfl rfl ?_
      refine z_run X by_X10_judge_24_25 ky_X10_judge_24_25 (lv' := [(0, .ref x), (1, .int xq), (2, .int yq)]) (st' := [.ref x]) rfl ?_
      refine z_get X fl_10_47 dy_X10_judge_25 0 rfl (v := .ref trials) rfl ?_
      refine z_run X by_X10_judge_28_30 ky_X10_judge_28_30 (lv' := [(0, .ref x), (1, .int xq), (2, .int yq)]) (st' := [.int yq, .int xq, .ref trials]) rfl ?_
      refine z_callV X k_10_246 (cy_X9_firstAgainstG l G trials tc tsp twh tfi tse tgi tle tsc tbx tby fwh ffi fse fgi fsc2_3 fbx2_4 fby2_5 xq yq tci htc (by omega) hg) dy_X10_judge_30 6 rfl rfl rfl ⟨Nat.le_of_ble_eq_true rfl, Nat.le_of_ble_eq_true rfl⟩ ⟨Nat.le_of_ble_eq_true rfl, Nat.le_of_ble_eq_true rfl⟩ rfl (rest := []) (As := [.int xq, .int yq]) rfl (Nat.le_of_ble_eq_true rfl) [6, 8, 9, 10, 11, 13, 14, 15] [0, 1, 2, 3, 4, 5, 7, 12] rfl (by decide) (wr := [(x, ob 10 [x_told, x_reader, x_ring, .ref speeds, x_wheel, .ref trials, x_span, x_search, x_kept, .ref crosses, x_trueMasses, .ref thought, x_up, x_low, x_fits, x_pulls]), (speeds, ob 7 [.int sc, .ref sf, .ref so, sX0, sX1, sX2]), (sf, aI G 6 ff), (so, aI G 6 fo), (crosses, aI G 4 cr), (thought, aI G 8 ft), (tsp, aI G 12 fsp), (tle, aI G 48 fle)]) rfl (by decide) (by decide) ?_
      rintro _ _ ⟨rz_7, f30_8, rfl, rfl⟩
      refine Z.at (pc' := 33) (st' := [.int rz_7]) (ws' := [(x, ob 10 [x_told, x_reader, x_ring, .ref speeds, x_wheel, .ref trials, x_span, x_search, x_kept, .ref crosses, x_trueMasses, .ref thought, x_up, x_low, x_fits, x_pulls]), (speeds, ob 7 [.int sc, .ref sf, .ref so, sX0, sX1, sX2]), (sf, aI G 6 ff), (so, aI G 6 fo), (crosses, aI G 4 cr), (thought, aI G 8 ft), (tsp, aI G 12 fsp), (tle, aI G 48 fle), (trials, ob 9 [.int tc, .ref tsp, .ref twh, .ref tfi, .ref tse, .ref tgi, .ref tle, .ref tsc, .ref tbx, .ref tby]), (twh, aZ G 12 fwh), (tfi, aI G 12 ffi), (tse, aI G 12 fse), (tgi, aI G 12 fgi), (tsc, aI G 12 fsc2_3), (tbx, aI G 12 fbx2_4), (tby, aI G 12 fby2_5)]) (kc' := 0) (ks' := 0) rfl rfl rfl rfl rfl ?_
      exact z_iret X rfl dy_X10_judge_33 (Nat.le_of_ble_eq_true rfl) (Nat.le_of_ble_eq_true rfl) ⟨rz_7, (f30_8.trans ((fa_prep (F := (tr6 fsp fwh ffi fse fgi fle)) f21_6).trans (mJudge_yes (by omega)).symm)), rfl⟩
    ·
      refine z_run X by_X10_judge_18_19 ky_X10_judge_18_19 (lv' := [(0, .ref x), (1, .int xq), (2, .int yq)]) (st' := [.int (-1)]) rfl ?_
      exact z_iret X rfl dy_X10_judge_19 (Nat.le_of_ble_eq_true rfl) (Nat.le_of_ble_eq_true rfl) ⟨((-1) : Int32), ((show (-1 : Int32).toInt = -1 from by decide).trans (mJudge_no (by omega)).symm), rfl⟩

theorem dy_X1_start_2 : decode cX1_start 2 = .ok (.putfield 18, 3) := by decide +kernel
theorem dy_X1_start_5 : decode cX1_start 5 = .ok (.return_, 1) := by decide +kernel
abbrev by_X1_start_0_2 : ZB := [(.aload_n 0, .null), (.iconst 0, .int 0)]
theorem ky_X1_start_0_2 : zchk cX1_start by_X1_start_0_2 0 = true ∧ zpc by_X1_start_0_2 0 = 2 := ⟨by decide +kernel, rfl⟩
set_option maxHeartbeats 4000000 in
set_option maxRecDepth 100000 in
theorem cy_X1_startG (l : Launch) (G : KG) (span : Nat) (ec : Int32) (e1 : Int32) (e2 : Int32) (e3 : Int32) (e4 : Int32) (e5 : Int32) (e6 : Int32) (ex : Nat) (ey : Nat) : Ct l G yX1_start cX1_start 1 none { frames := 0, cells := 0, slots := 0, locals := 0 } [.ref span] [(span, ob 1 [.int ec, .int e1, .int e2, .int e3, .int e4, .int e5, .int e6, .ref ex, .ref ey])] (fun r w1 => r = none ∧ w1 = [(span, ob 1 [.int 0, .int e1, .int e2, .int e3, .int e4, .int e5, .int e6, .ref ex, .ref ey])]) := by
  refine ct_of [(0, .ref span)] (by decide) (Nat.le_of_ble_eq_true rfl) rfl ?_
  intro p0 e0 s0 m0 args0 below0 meth0 c0 A X
  refine z_run X by_X1_start_0_2 ky_X1_start_0_2 (lv' := [(0, .ref span)]) (st' := [.int 0, .ref span]) rfl ?_
  refine z_put X fl_1_18 dy_X1_start_2 0 rfl (ty := .int) (T := TX1) (N := 9) rfl (Or.inl rfl) (by decide +kernel) rfl (by rfl) (Nat.le_of_ble_eq_true rfl) (ws' := [(span, ob 1 [.int 0, .int e1, .int e2, .int e3, .int e4, .int e5, .int e6, .ref ex, .ref ey])]) rfl ?_
  exact z_vret X rfl dy_X1_start_5 (Nat.le_of_ble_eq_true rfl) (Nat.le_of_ble_eq_true rfl) ⟨rfl, rfl⟩

theorem dy_X1_take_1 : decode cX1_take 1 = .ok (.getfield 18, 3) := by decide +kernel
theorem dy_X1_take_4 : decode cX1_take 4 = .ok (.ifCond .ne 23, 3) := by decide +kernel
theorem dy_X1_take_29 : decode cX1_take 29 = .ok (.putfield 34, 3) := by decide +kernel
theorem dy_X1_take_34 : decode cX1_take 34 = .ok (.putfield 37, 3) := by decide +kernel
theorem dy_X1_take_39 : decode cX1_take 39 = .ok (.getfield 28, 3) := by decide +kernel
theorem dy_X1_take_43 : decode cX1_take 43 = .ok (.invokestatic 40, 3) := by decide +kernel
theorem dy_X1_take_46 : decode cX1_take 46 = .ok (.putfield 28, 3) := by decide +kernel
theorem dy_X1_take_51 : decode cX1_take 51 = .ok (.getfield 31, 3) := by decide +kernel
theorem dy_X1_take_55 : decode cX1_take 55 = .ok (.invokestatic 46, 3) := by decide +kernel
theorem dy_X1_take_58 : decode cX1_take 58 = .ok (.putfield 31, 3) := by decide +kernel
theorem dy_X1_take_62 : decode cX1_take 62 = .ok (.getfield 18, 3) := by decide +kernel
theorem dy_X1_take_67 : decode cX1_take 67 = .ok (.if_icmp .ge 23, 3) := by decide +kernel
theorem dy_X1_take_92 : decode cX1_take 92 = .ok (.getfield 18, 3) := by decide +kernel
theorem dy_X1_take_97 : decode cX1_take 97 = .ok (.putfield 18, 3) := by decide +kernel
theorem dy_X1_take_100 : decode cX1_take 100 = .ok (.return_, 1) := by decide +kernel
theorem dy_X1_take_71 : decode cX1_take 71 = .ok (.getfield 9, 3) := by decide +kernel
theorem dy_X1_take_75 : decode cX1_take 75 = .ok (.getfield 18, 3) := by decide +kernel
theorem dy_X1_take_79 : decode cX1_take 79 = .ok (.iastore, 1) := by decide +kernel
theorem dy_X1_take_81 : decode cX1_take 81 = .ok (.getfield 15, 3) := by decide +kernel
theorem dy_X1_take_85 : decode cX1_take 85 = .ok (.getfield 18, 3) := by decide +kernel
theorem dy_X1_take_89 : decode cX1_take 89 = .ok (.iastore, 1) := by decide +kernel
theorem dy_X1_take_9 : decode cX1_take 9 = .ok (.putfield 22, 3) := by decide +kernel
theorem dy_X1_take_14 : decode cX1_take 14 = .ok (.putfield 25, 3) := by decide +kernel
theorem dy_X1_take_19 : decode cX1_take 19 = .ok (.putfield 28, 3) := by decide +kernel
theorem dy_X1_take_24 : decode cX1_take 24 = .ok (.putfield 31, 3) := by decide +kernel
abbrev by_X1_take_0_1 : ZB := [(.aload_n 0, .null)]
theorem ky_X1_take_0_1 : zchk cX1_take by_X1_take_0_1 0 = true ∧ zpc by_X1_take_0_1 0 = 1 := ⟨by decide +kernel, rfl⟩
abbrev by_X1_take_27_29 : ZB := [(.aload_n 0, .null), (.iload_n 1, .null)]
theorem ky_X1_take_27_29 : zchk cX1_take by_X1_take_27_29 27 = true ∧ zpc by_X1_take_27_29 27 = 29 := ⟨by decide +kernel, rfl⟩
abbrev by_X1_take_32_34 : ZB := [(.aload_n 0, .null), (.iload_n 2, .null)]
theorem ky_X1_take_32_34 : zchk cX1_take by_X1_take_32_34 32 = true ∧ zpc by_X1_take_32_34 32 = 34 := ⟨by decide +kernel, rfl⟩
abbrev by_X1_take_37_39 : ZB := [(.aload_n 0, .null), (.aload_n 0, .null)]
theorem ky_X1_take_37_39 : zchk cX1_take by_X1_take_37_39 37 = true ∧ zpc by_X1_take_37_39 37 = 39 := ⟨by decide +kernel, rfl⟩
abbrev by_X1_take_42_43 : ZB := [(.iload_n 2, .null)]
theorem ky_X1_take_42_43 : zchk cX1_take by_X1_take_42_43 42 = true ∧ zpc by_X1_take_42_43 42 = 43 := ⟨by decide +kernel, rfl⟩
abbrev by_X1_take_49_51 : ZB := [(.aload_n 0, .null), (.aload_n 0, .null)]
theorem ky_X1_take_49_51 : zchk cX1_take by_X1_take_49_51 49 = true ∧ zpc by_X1_take_49_51 49 = 51 := ⟨by decide +kernel, rfl⟩
abbrev by_X1_take_54_55 : ZB := [(.iload_n 2, .null)]
theorem ky_X1_take_54_55 : zchk cX1_take by_X1_take_54_55 54 = true ∧ zpc by_X1_take_54_55 54 = 55 := ⟨by decide +kernel, rfl⟩
abbrev by_X1_take_61_62 : ZB := [(.aload_n 0, .null)]
theorem ky_X1_take_61_62 : zchk cX1_take by_X1_take_61_62 61 = true ∧ zpc by_X1_take_61_62 61 = 62 := ⟨by decide +kernel, rfl⟩
abbrev by_X1_take_65_67 : ZB := [(.bipush 40, .int 40)]
theorem ky_X1_take_65_67 : zchk cX1_take by_X1_take_65_67 65 = true ∧ zpc by_X1_take_65_67 65 = 67 := ⟨by decide +kernel, rfl⟩
abbrev by_X1_take_90_92 : ZB := [(.aload_n 0, .null), (.dup, .null)]
theorem ky_X1_take_90_92 : zchk cX1_take by_X1_take_90_92 90 = true ∧ zpc by_X1_take_90_92 90 = 92 := ⟨by decide +kernel, rfl⟩
abbrev by_X1_take_95_97 : ZB := [(.iconst 1, .int 1), (.iadd, .null)]
theorem ky_X1_take_95_97 : zchk cX1_take by_X1_take_95_97 95 = true ∧ zpc by_X1_take_95_97 95 = 97 := ⟨by decide +kernel, rfl⟩
abbrev by_X1_take_70_71 : ZB := [(.aload_n 0, .null)]
theorem ky_X1_take_70_71 : zchk cX1_take by_X1_take_70_71 70 = true ∧ zpc by_X1_take_70_71 70 = 71 := ⟨by decide +kernel, rfl⟩
abbrev by_X1_take_74_75 : ZB := [(.aload_n 0, .null)]
theorem ky_X1_take_74_75 : zchk cX1_take by_X1_take_74_75 74 = true ∧ zpc by_X1_take_74_75 74 = 75 := ⟨by decide +kernel, rfl⟩
abbrev by_X1_take_78_79 : ZB := [(.iload_n 1, .null)]
theorem ky_X1_take_78_79 : zchk cX1_take by_X1_take_78_79 78 = true ∧ zpc by_X1_take_78_79 78 = 79 := ⟨by decide +kernel, rfl⟩
abbrev by_X1_take_80_81 : ZB := [(.aload_n 0, .null)]
theorem ky_X1_take_80_81 : zchk cX1_take by_X1_take_80_81 80 = true ∧ zpc by_X1_take_80_81 80 = 81 := ⟨by decide +kernel, rfl⟩
abbrev by_X1_take_84_85 : ZB := [(.aload_n 0, .null)]
theorem ky_X1_take_84_85 : zchk cX1_take by_X1_take_84_85 84 = true ∧ zpc by_X1_take_84_85 84 = 85 := ⟨by decide +kernel, rfl⟩
abbrev by_X1_take_88_89 : ZB := [(.iload_n 2, .null)]
theorem ky_X1_take_88_89 : zchk cX1_take by_X1_take_88_89 88 = true ∧ zpc by_X1_take_88_89 88 = 89 := ⟨by decide +kernel, rfl⟩
abbrev by_X1_take_7_9 : ZB := [(.aload_n 0, .null), (.iload_n 1, .null)]
theorem ky_X1_take_7_9 : zchk cX1_take by_X1_take_7_9 7 = true ∧ zpc by_X1_take_7_9 7 = 9 := ⟨by decide +kernel, rfl⟩
abbrev by_X1_take_12_14 : ZB := [(.aload_n 0, .null), (.iload_n 2, .null)]
theorem ky_X1_take_12_14 : zchk cX1_take by_X1_take_12_14 12 = true ∧ zpc by_X1_take_12_14 12 = 14 := ⟨by decide +kernel, rfl⟩
abbrev by_X1_take_17_19 : ZB := [(.aload_n 0, .null), (.iload_n 2, .null)]
theorem ky_X1_take_17_19 : zchk cX1_take by_X1_take_17_19 17 = true ∧ zpc by_X1_take_17_19 17 = 19 := ⟨by decide +kernel, rfl⟩
abbrev by_X1_take_22_24 : ZB := [(.aload_n 0, .null), (.iload_n 2, .null)]
theorem ky_X1_take_22_24 : zchk cX1_take by_X1_take_22_24 22 = true ∧ zpc by_X1_take_22_24 22 = 24 := ⟨by decide +kernel, rfl⟩
set_option maxHeartbeats 4000000 in
set_option maxRecDepth 100000 in
theorem cy_X1_takeG (l : Launch) (G : KG) (span : Nat) (ec : Int32) (e1 : Int32) (e2 : Int32) (e3 : Int32) (e4 : Int32) (e5 : Int32) (e6 : Int32) (ex : Nat) (ey : Nat) (fex : Nat → Int32) (fey : Nat → Int32) (xq : Int32) (yq : Int32) (eci : Int) (hec : ec.toInt = eci) (he : 0 ≤ eci ∧ eci ≤ 14640) : Ct l G yX1_take cX1_take 3 none { frames := 1, cells := 0, slots := 0, locals := 14 } [.ref span, .int xq, .int yq] [(span, ob 1 [.int ec, .int e1, .int e2, .int e3, .int e4, .int e5, .int e6, .ref ex, .ref ey]), (ex, aI G 40 fex), (ey, aI G 40 fey)] (fun r w1 => ∃ (e12 : Int32), ∃ (e22 : Int32), ∃ (e32 : Int32), ∃ (e42 : Int32), ∃ (e52 : Int32), ∃ (e62 : Int32), ∃ (fex2 : Nat → Int32), ∃ (fey2 : Nat → Int32), r = none ∧ w1 = [(span, ob 1 [.int (ec + 1), .int e12, .int e22, .int e32, .int e42, .int e52, .int e62, .ref ex, .ref ey]), (ex, aI G 40 fex2), (ey, aI G 40 fey2)]) := by
  refine ct_of [(0, .ref span), (1, .int xq), (2, .int yq)] (by decide) (Nat.le_of_ble_eq_true rfl) rfl ?_
  intro p0 e0 s0 m0 args0 below0 meth0 c0 A X
  refine z_run X by_X1_take_0_1 ky_X1_take_0_1 (lv' := [(0, .ref span), (1, .int xq), (2, .int yq)]) (st' := [.ref span]) rfl ?_
  refine z_get X fl_1_18 dy_X1_take_1 0 rfl (v := .int ec) rfl ?_
  refine zi_ne X dy_X1_take_4 (tgt := 27) (by decide) (a := eci) hec (fun c4_1 => ?_) (fun c4_1 => ?_)
  ·
    refine z_run X by_X1_take_27_29 ky_X1_take_27_29 (lv' := [(0, .ref span), (1, .int xq), (2, .int yq)]) (st' := [.int xq, .ref span]) rfl ?_
    refine z_put X fl_1_34 dy_X1_take_29 0 rfl (ty := .int) (T := TX1) (N := 9) rfl (Or.inl rfl) (by decide +kernel) rfl (by rfl) (Nat.le_of_ble_eq_true rfl) (ws' := [(span, ob 1 [.int ec, .int e1, .int e2, .int xq, .int e4, .int e5, .int e6, .ref ex, .ref ey]), (ex, aI G 40 fex), (ey, aI G 40 fey)]) rfl ?_
    refine z_run X by_X1_take_32_34 ky_X1_take_32_34 (lv' := [(0, .ref span), (1, .int xq), (2, .int yq)]) (st' := [.int yq, .ref span]) rfl ?_
    refine z_put X fl_1_37 dy_X1_take_34 0 rfl (ty := .int) (T := TX1) (N := 9) rfl (Or.inl rfl) (by decide +kernel) rfl (by rfl) (Nat.le_of_ble_eq_true rfl) (ws' := [(span, ob 1 [.int ec, .int e1, .int e2, .int xq, .int yq, .int e5, .int e6, .ref ex, .ref ey]), (ex, aI G 40 fex), (ey, aI G 40 fey)]) rfl ?_
    refine z_run X by_X1_take_37_39 ky_X1_take_37_39 (lv' := [(0, .ref span), (1, .int xq), (2, .int yq)]) (st' := [.ref span, .ref span]) rfl ?_
    refine z_get X fl_1_28 dy_X1_take_39 0 rfl (v := .int e5) rfl ?_
    refine z_run X by_X1_take_42_43 ky_X1_take_42_43 (lv' := [(0, .ref span), (1, .int xq), (2, .int yq)]) (st' := [.int yq, .int e5, .ref span]) rfl ?_
    refine z_mmin X k_1_40.1 k_1_40.2.1 k_1_40.2.2.1 k_1_40.2.2.2.1 ⟨Nat.le_of_ble_eq_true rfl, Nat.le_of_ble_eq_true rfl⟩ ⟨Nat.le_of_ble_eq_true rfl, Nat.le_of_ble_eq_true rfl⟩ dy_X1_take_43 (v := (if yq < e5 then yq else e5)) rfl ?_
    refine z_put X fl_1_28 dy_X1_take_46 0 rfl (ty := .int) (T := TX1) (N := 9) rfl (Or.inl rfl) (by decide +kernel) rfl (by rfl) (Nat.le_of_ble_eq_true rfl) (ws' := [(span, ob 1 [.int ec, .int e1, .int e2, .int xq, .int yq, .int (if yq < e5 then yq else e5), .int e6, .ref ex, .ref ey]), (ex, aI G 40 fex), (ey, aI G 40 fey)]) rfl ?_
    refine z_run X by_X1_take_49_51 ky_X1_take_49_51 (lv' := [(0, .ref span), (1, .int xq), (2, .int yq)]) (st' := [.ref span, .ref span]) rfl ?_
    refine z_get X fl_1_31 dy_X1_take_51 0 rfl (v := .int e6) rfl ?_
    refine z_run X by_X1_take_54_55 ky_X1_take_54_55 (lv' := [(0, .ref span), (1, .int xq), (2, .int yq)]) (st' := [.int yq, .int e6, .ref span]) rfl ?_
    refine z_mmax X k_1_46.1 k_1_46.2.1 k_1_46.2.2.1 k_1_46.2.2.2.1 ⟨Nat.le_of_ble_eq_true rfl, Nat.le_of_ble_eq_true rfl⟩ ⟨Nat.le_of_ble_eq_true rfl, Nat.le_of_ble_eq_true rfl⟩ dy_X1_take_55 (v := (if e6 < yq then yq else e6)) rfl ?_
    refine z_put X fl_1_31 dy_X1_take_58 0 rfl (ty := .int) (T := TX1) (N := 9) rfl (Or.inl rfl) (by decide +kernel) rfl (by rfl) (Nat.le_of_ble_eq_true rfl) (ws' := [(span, ob 1 [.int ec, .int e1, .int e2, .int xq, .int yq, .int (if yq < e5 then yq else e5), .int (if e6 < yq then yq else e6), .ref ex, .ref ey]), (ex, aI G 40 fex), (ey, aI G 40 fey)]) rfl ?_
    refine z_run X by_X1_take_61_62 ky_X1_take_61_62 (lv' := [(0, .ref span), (1, .int xq), (2, .int yq)]) (st' := [.ref span]) rfl ?_
    refine z_get X fl_1_18 dy_X1_take_62 0 rfl (v := .int ec) rfl ?_
    refine z_run X by_X1_take_65_67 ky_X1_take_65_67 (lv' := [(0, .ref span), (1, .int xq), (2, .int yq)]) (st' := [.int 40, .int ec]) rfl ?_
    refine zc_ge X dy_X1_take_67 (tgt := 90) (by decide) (a := eci) (b := 40) hec (show (40 : Int32).toInt = 40 from by decide) (fun c67_2 => ?_) (fun c67_2 => ?_)
    ·
      refine z_run X by_X1_take_90_92 ky_X1_take_90_92 (lv' := [(0, .ref span), (1, .int xq), (2, .int yq)]) (st' := [.ref span, .ref span]) rfl ?_
      refine z_get X fl_1_18 dy_X1_take_92 0 rfl (v := .int ec) rfl ?_
      refine z_run X by_X1_take_95_97 ky_X1_take_95_97 (lv' := [(0, .ref span), (1, .int xq), (2, .int yq)]) (st' := [.int (ec + 1), .ref span]) rfl ?_
      refine z_put X fl_1_18 dy_X1_take_97 0 rfl (ty := .int) (T := TX1) (N := 9) rfl (Or.inl rfl) (by decide +kernel) rfl (by rfl) (Nat.le_of_ble_eq_true rfl) (ws' := [(span, ob 1 [.int (ec + 1), .int e1, .int e2, .int xq, .int yq, .int (if yq < e5 then yq else e5), .int (if e6 < yq then yq else e6), .ref ex, .ref ey]), (ex, aI G 40 fex), (ey, aI G 40 fey)]) rfl ?_
      exact z_vret X rfl dy_X1_take_100 (Nat.le_of_ble_eq_true rfl) (Nat.le_of_ble_eq_true rfl) ⟨e1, e2, xq, yq, (if yq < e5 then yq else e5), (if e6 < yq then yq else e6), fex, fey, rfl, rfl⟩
    ·
      refine z_run X by_X1_take_70_71 ky_X1_take_70_71 (lv' := [(0, .ref span), (1, .int xq), (2, .int yq)]) (st' := [.ref span]) rfl ?_
      refine z_get X fl_1_9 dy_X1_take_71 0 rfl (v := .ref ex) rfl ?_
      refine z_run X by_X1_take_74_75 ky_X1_take_74_75 (lv' := [(0, .ref span), (1, .int xq), (2, .int yq)]) (st' := [.ref span, .ref ex]) rfl ?_
      refine z_get X fl_1_18 dy_X1_take_75 0 rfl (v := .int ec) rfl ?_
      refine z_run X by_X1_take_78_79 ky_X1_take_78_79 (lv' := [(0, .ref span), (1, .int xq), (2, .int yq)]) (st' := [.int xq, .int ec, .ref ex]) rfl ?_
      refine z_iast X dy_X1_take_79 1 rfl (vin hec (by omega) (by omega)) (ws' := [(span, ob 1 [.int ec, .int e1, .int e2, .int xq, .int yq, .int (if yq < e5 then yq else e5), .int (if e6 < yq then yq else e6), .ref ex, .ref ey]), (ex, aI G 40 (upd fex ec.toNatClampNeg xq)), (ey, aI G 40 fey)]) rfl ?_
      refine z_run X by_X1_take_80_81 ky_X1_take_80_81 (lv' := [(0, .ref span), (1, .int xq), (2, .int yq)]) (st' := [.ref span]) rfl ?_
      refine z_get X fl_1_15 dy_X1_take_81 0 rfl (v := .ref ey) rfl ?_
      refine z_run X by_X1_take_84_85 ky_X1_take_84_85 (lv' := [(0, .ref span), (1, .int xq), (2, .int yq)]) (st' := [.ref span, .ref ey]) rfl ?_
      refine z_get X fl_1_18 dy_X1_take_85 0 rfl (v := .int ec) rfl ?_
      refine z_run X by_X1_take_88_89 ky_X1_take_88_89 (lv' := [(0, .ref span), (1, .int xq), (2, .int yq)]) (st' := [.int yq, .int ec, .ref ey]) rfl ?_
      refine z_iast X dy_X1_take_89 2 rfl (vin hec (by omega) (by omega)) (ws' := [(span, ob 1 [.int ec, .int e1, .int e2, .int xq, .int yq, .int (if yq < e5 then yq else e5), .int (if e6 < yq then yq else e6), .ref ex, .ref ey]), (ex, aI G 40 (upd fex ec.toNatClampNeg xq)), (ey, aI G 40 (upd fey ec.toNatClampNeg yq))]) rfl ?_
      refine z_run X by_X1_take_90_92 ky_X1_take_90_92 (lv' := [(0, .ref span), (1, .int xq), (2, .int yq)]) (st' := [.ref span, .ref span]) rfl ?_
      refine z_get X fl_1_18 dy_X1_take_92 0 rfl (v := .int ec) rfl ?_
      refine z_run X by_X1_take_95_97 ky_X1_take_95_97 (lv' := [(0, .ref span), (1, .int xq), (2, .int yq)]) (st' := [.int (ec + 1), .ref span]) rfl ?_
      refine z_put X fl_1_18 dy_X1_take_97 0 rfl (ty := .int) (T := TX1) (N := 9) rfl (Or.inl rfl) (by decide +kernel) rfl (by rfl) (Nat.le_of_ble_eq_true rfl) (ws' := [(span, ob 1 [.int (ec + 1), .int e1, .int e2, .int xq, .int yq, .int (if yq < e5 then yq else e5), .int (if e6 < yq then yq else e6), .ref ex, .ref ey]), (ex, aI G 40 (upd fex ec.toNatClampNeg xq)), (ey, aI G 40 (upd fey ec.toNatClampNeg yq))]) rfl ?_
      exact z_vret X rfl dy_X1_take_100 (Nat.le_of_ble_eq_true rfl) (Nat.le_of_ble_eq_true rfl) ⟨e1, e2, xq, yq, (if yq < e5 then yq else e5), (if e6 < yq then yq else e6), (upd fex ec.toNatClampNeg xq), (upd fey ec.toNatClampNeg yq), rfl, rfl⟩
  ·
    refine z_run X by_X1_take_7_9 ky_X1_take_7_9 (lv' := [(0, .ref span), (1, .int xq), (2, .int yq)]) (st' := [.int xq, .ref span]) rfl ?_
    refine z_put X fl_1_22 dy_X1_take_9 0 rfl (ty := .int) (T := TX1) (N := 9) rfl (Or.inl rfl) (by decide +kernel) rfl (by rfl) (Nat.le_of_ble_eq_true rfl) (ws' := [(span, ob 1 [.int ec, .int xq, .int e2, .int e3, .int e4, .int e5, .int e6, .ref ex, .ref ey]), (ex, aI G 40 fex), (ey, aI G 40 fey)]) rfl ?_
    refine z_run X by_X1_take_12_14 ky_X1_take_12_14 (lv' := [(0, .ref span), (1, .int xq), (2, .int yq)]) (st' := [.int yq, .ref span]) rfl ?_
    refine z_put X fl_1_25 dy_X1_take_14 0 rfl (ty := .int) (T := TX1) (N := 9) rfl (Or.inl rfl) (by decide +kernel) rfl (by rfl) (Nat.le_of_ble_eq_true rfl) (ws' := [(span, ob 1 [.int ec, .int xq, .int yq, .int e3, .int e4, .int e5, .int e6, .ref ex, .ref ey]), (ex, aI G 40 fex), (ey, aI G 40 fey)]) rfl ?_
    refine z_run X by_X1_take_17_19 ky_X1_take_17_19 (lv' := [(0, .ref span), (1, .int xq), (2, .int yq)]) (st' := [.int yq, .ref span]) rfl ?_
    refine z_put X fl_1_28 dy_X1_take_19 0 rfl (ty := .int) (T := TX1) (N := 9) rfl (Or.inl rfl) (by decide +kernel) rfl (by rfl) (Nat.le_of_ble_eq_true rfl) (ws' := [(span, ob 1 [.int ec, .int xq, .int yq, .int e3, .int e4, .int yq, .int e6, .ref ex, .ref ey]), (ex, aI G 40 fex), (ey, aI G 40 fey)]) rfl ?_
    refine z_run X by_X1_take_22_24 ky_X1_take_22_24 (lv' := [(0, .ref span), (1, .int xq), (2, .int yq)]) (st' := [.int yq, .ref span]) rfl ?_
    refine z_put X fl_1_31 dy_X1_take_24 0 rfl (ty := .int) (T := TX1) (N := 9) rfl (Or.inl rfl) (by decide +kernel) rfl (by rfl) (Nat.le_of_ble_eq_true rfl) (ws' := [(span, ob 1 [.int ec, .int xq, .int yq, .int e3, .int e4, .int yq, .int yq, .ref ex, .ref ey]), (ex, aI G 40 fex), (ey, aI G 40 fey)]) rfl ?_
    refine z_run X by_X1_take_27_29 ky_X1_take_27_29 (lv' := [(0, .ref span), (1, .int xq), (2, .int yq)]) (st' := [.int xq, .ref span]) rfl ?_
    refine z_put X fl_1_34 dy_X1_take_29 0 rfl (ty := .int) (T := TX1) (N := 9) rfl (Or.inl rfl) (by decide +kernel) rfl (by rfl) (Nat.le_of_ble_eq_true rfl) (ws' := [(span, ob 1 [.int ec, .int xq, .int yq, .int xq, .int e4, .int yq, .int yq, .ref ex, .ref ey]), (ex, aI G 40 fex), (ey, aI G 40 fey)]) rfl ?_
    refine z_run X by_X1_take_32_34 ky_X1_take_32_34 (lv' := [(0, .ref span), (1, .int xq), (2, .int yq)]) (st' := [.int yq, .ref span]) rfl ?_
    refine z_put X fl_1_37 dy_X1_take_34 0 rfl (ty := .int) (T := TX1) (N := 9) rfl (Or.inl rfl) (by decide +kernel) rfl (by rfl) (Nat.le_of_ble_eq_true rfl) (ws' := [(span, ob 1 [.int ec, .int xq, .int yq, .int xq, .int yq, .int yq, .int yq, .ref ex, .ref ey]), (ex, aI G 40 fex), (ey, aI G 40 fey)]) rfl ?_
    refine z_run X by_X1_take_37_39 ky_X1_take_37_39 (lv' := [(0, .ref span), (1, .int xq), (2, .int yq)]) (st' := [.ref span, .ref span]) rfl ?_
    refine z_get X fl_1_28 dy_X1_take_39 0 rfl (v := .int yq) rfl ?_
    refine z_run X by_X1_take_42_43 ky_X1_take_42_43 (lv' := [(0, .ref span), (1, .int xq), (2, .int yq)]) (st' := [.int yq, .int yq, .ref span]) rfl ?_
    refine z_mmin X k_1_40.1 k_1_40.2.1 k_1_40.2.2.1 k_1_40.2.2.2.1 ⟨Nat.le_of_ble_eq_true rfl, Nat.le_of_ble_eq_true rfl⟩ ⟨Nat.le_of_ble_eq_true rfl, Nat.le_of_ble_eq_true rfl⟩ dy_X1_take_43 (v := (if yq < yq then yq else yq)) rfl ?_
    refine z_put X fl_1_28 dy_X1_take_46 0 rfl (ty := .int) (T := TX1) (N := 9) rfl (Or.inl rfl) (by decide +kernel) rfl (by rfl) (Nat.le_of_ble_eq_true rfl) (ws' := [(span, ob 1 [.int ec, .int xq, .int yq, .int xq, .int yq, .int (if yq < yq then yq else yq), .int yq, .ref ex, .ref ey]), (ex, aI G 40 fex), (ey, aI G 40 fey)]) rfl ?_
    refine z_run X by_X1_take_49_51 ky_X1_take_49_51 (lv' := [(0, .ref span), (1, .int xq), (2, .int yq)]) (st' := [.ref span, .ref span]) rfl ?_
    refine z_get X fl_1_31 dy_X1_take_51 0 rfl (v := .int yq) rfl ?_
    refine z_run X by_X1_take_54_55 ky_X1_take_54_55 (lv' := [(0, .ref span), (1, .int xq), (2, .int yq)]) (st' := [.int yq, .int yq, .ref span]) rfl ?_
    refine z_mmax X k_1_46.1 k_1_46.2.1 k_1_46.2.2.1 k_1_46.2.2.2.1 ⟨Nat.le_of_ble_eq_true rfl, Nat.le_of_ble_eq_true rfl⟩ ⟨Nat.le_of_ble_eq_true rfl, Nat.le_of_ble_eq_true rfl⟩ dy_X1_take_55 (v := (if yq < yq then yq else yq)) rfl ?_
    refine z_put X fl_1_31 dy_X1_take_58 0 rfl (ty := .int) (T := TX1) (N := 9) rfl (Or.inl rfl) (by decide +kernel) rfl (by rfl) (Nat.le_of_ble_eq_true rfl) (ws' := [(span, ob 1 [.int ec, .int xq, .int yq, .int xq, .int yq, .int (if yq < yq then yq else yq), .int (if yq < yq then yq else yq), .ref ex, .ref ey]), (ex, aI G 40 fex), (ey, aI G 40 fey)]) rfl ?_
    refine z_run X by_X1_take_61_62 ky_X1_take_61_62 (lv' := [(0, .ref span), (1, .int xq), (2, .int yq)]) (st' := [.ref span]) rfl ?_
    refine z_get X fl_1_18 dy_X1_take_62 0 rfl (v := .int ec) rfl ?_
    refine z_run X by_X1_take_65_67 ky_X1_take_65_67 (lv' := [(0, .ref span), (1, .int xq), (2, .int yq)]) (st' := [.int 40, .int ec]) rfl ?_
    refine zc_ge X dy_X1_take_67 (tgt := 90) (by decide) (a := eci) (b := 40) hec (show (40 : Int32).toInt = 40 from by decide) (fun c67_3 => ?_) (fun c67_3 => ?_)
    ·
      refine z_run X by_X1_take_90_92 ky_X1_take_90_92 (lv' := [(0, .ref span), (1, .int xq), (2, .int yq)]) (st' := [.ref span, .ref span]) rfl ?_
      refine z_get X fl_1_18 dy_X1_take_92 0 rfl (v := .int ec) rfl ?_
      refine z_run X by_X1_take_95_97 ky_X1_take_95_97 (lv' := [(0, .ref span), (1, .int xq), (2, .int yq)]) (st' := [.int (ec + 1), .ref span]) rfl ?_
      refine z_put X fl_1_18 dy_X1_take_97 0 rfl (ty := .int) (T := TX1) (N := 9) rfl (Or.inl rfl) (by decide +kernel) rfl (by rfl) (Nat.le_of_ble_eq_true rfl) (ws' := [(span, ob 1 [.int (ec + 1), .int xq, .int yq, .int xq, .int yq, .int (if yq < yq then yq else yq), .int (if yq < yq then yq else yq), .ref ex, .ref ey]), (ex, aI G 40 fex), (ey, aI G 40 fey)]) rfl ?_
      exact z_vret X rfl dy_X1_take_100 (Nat.le_of_ble_eq_true rfl) (Nat.le_of_ble_eq_true rfl) ⟨xq, yq, xq, yq, (if yq < yq then yq else yq), (if yq < yq then yq else yq), fex, fey, rfl, rfl⟩
    ·
      refine z_run X by_X1_take_70_71 ky_X1_take_70_71 (lv' := [(0, .ref span), (1, .int xq), (2, .int yq)]) (st' := [.ref span]) rfl ?_
      refine z_get X fl_1_9 dy_X1_take_71 0 rfl (v := .ref ex) rfl ?_
      refine z_run X by_X1_take_74_75 ky_X1_take_74_75 (lv' := [(0, .ref span), (1, .int xq), (2, .int yq)]) (st' := [.ref span, .ref ex]) rfl ?_
      refine z_get X fl_1_18 dy_X1_take_75 0 rfl (v := .int ec) rfl ?_
      refine z_run X by_X1_take_78_79 ky_X1_take_78_79 (lv' := [(0, .ref span), (1, .int xq), (2, .int yq)]) (st' := [.int xq, .int ec, .ref ex]) rfl ?_
      refine z_iast X dy_X1_take_79 1 rfl (vin hec (by omega) (by omega)) (ws' := [(span, ob 1 [.int ec, .int xq, .int yq, .int xq, .int yq, .int (if yq < yq then yq else yq), .int (if yq < yq then yq else yq), .ref ex, .ref ey]), (ex, aI G 40 (upd fex ec.toNatClampNeg xq)), (ey, aI G 40 fey)]) rfl ?_
      refine z_run X by_X1_take_80_81 ky_X1_take_80_81 (lv' := [(0, .ref span), (1, .int xq), (2, .int yq)]) (st' := [.ref span]) rfl ?_
      refine z_get X fl_1_15 dy_X1_take_81 0 rfl (v := .ref ey) rfl ?_
      refine z_run X by_X1_take_84_85 ky_X1_take_84_85 (lv' := [(0, .ref span), (1, .int xq), (2, .int yq)]) (st' := [.ref span, .ref ey]) rfl ?_
      refine z_get X fl_1_18 dy_X1_take_85 0 rfl (v := .int ec) rfl ?_
      refine z_run X by_X1_take_88_89 ky_X1_take_88_89 (lv' := [(0, .ref span), (1, .int xq), (2, .int yq)]) (st' := [.int yq, .int ec, .ref ey]) rfl ?_
      refine z_iast X dy_X1_take_89 2 rfl (vin hec (by omega) (by omega)) (ws' := [(span, ob 1 [.int ec, .int xq, .int yq, .int xq, .int yq, .int (if yq < yq then yq else yq), .int (if yq < yq then yq else yq), .ref ex, .ref ey]), (ex, aI G 40 (upd fex ec.toNatClampNeg xq)), (ey, aI G 40 (upd fey ec.toNatClampNeg yq))]) rfl ?_
      refine z_run X by_X1_take_90_92 ky_X1_take_90_92 (lv' := [(0, .ref span), (1, .int xq), (2, .int yq)]) (st' := [.ref span, .ref span]) rfl ?_
      refine z_get X fl_1_18 dy_X1_take_92 0 rfl (v := .int ec) rfl ?_
      refine z_run X by_X1_take_95_97 ky_X1_take_95_97 (lv' := [(0, .ref span), (1, .int xq), (2, .int yq)]) (st' := [.int (ec + 1), .ref span]) rfl ?_
      refine z_put X fl_1_18 dy_X1_take_97 0 rfl (ty := .int) (T := TX1) (N := 9) rfl (Or.inl rfl) (by decide +kernel) rfl (by rfl) (Nat.le_of_ble_eq_true rfl) (ws' := [(span, ob 1 [.int (ec + 1), .int xq, .int yq, .int xq, .int yq, .int (if yq < yq then yq else yq), .int (if yq < yq then yq else yq), .ref ex, .ref ey]), (ex, aI G 40 (upd fex ec.toNatClampNeg xq)), (ey, aI G 40 (upd fey ec.toNatClampNeg yq))]) rfl ?_
      exact z_vret X rfl dy_X1_take_100 (Nat.le_of_ble_eq_true rfl) (Nat.le_of_ble_eq_true rfl) ⟨xq, yq, xq, yq, (if yq < yq then yq else yq), (if yq < yq then yq else yq), (upd fex ec.toNatClampNeg xq), (upd fey ec.toNatClampNeg yq), rfl, rfl⟩

theorem dy_X10_gatherSpan_1 : decode cX10_gatherSpan 1 = .ok (.invokevirtual 242, 3) := by decide +kernel
theorem dy_X10_gatherSpan_5 : decode cX10_gatherSpan 5 = .ok (.getfield 54, 3) := by decide +kernel
theorem dy_X10_gatherSpan_8 : decode cX10_gatherSpan 8 = .ok (.invokevirtual 245, 3) := by decide +kernel
theorem dy_X10_gatherSpan_17 : decode cX10_gatherSpan 17 = .ok (.if_icmp .gt 47, 3) := by decide +kernel
theorem dy_X10_gatherSpan_64 : decode cX10_gatherSpan 64 = .ok (.return_, 1) := by decide +kernel
theorem dy_X10_gatherSpan_26 : decode cX10_gatherSpan 26 = .ok (.if_icmp .gt 32, 3) := by decide +kernel
theorem dy_X10_gatherSpan_61 : decode cX10_gatherSpan 61 = .ok (.goto (-47), 3) := by decide +kernel
theorem dy_X10_gatherSpan_30 : decode cX10_gatherSpan 30 = .ok (.getfield 47, 3) := by decide +kernel
theorem dy_X10_gatherSpan_35 : decode cX10_gatherSpan 35 = .ok (.invokevirtual 246, 3) := by decide +kernel
theorem dy_X10_gatherSpan_40 : decode cX10_gatherSpan 40 = .ok (.if_icmp .ne 12, 3) := by decide +kernel
theorem dy_X10_gatherSpan_55 : decode cX10_gatherSpan 55 = .ok (.goto (-32), 3) := by decide +kernel
theorem dy_X10_gatherSpan_44 : decode cX10_gatherSpan 44 = .ok (.getfield 54, 3) := by decide +kernel
theorem dy_X10_gatherSpan_49 : decode cX10_gatherSpan 49 = .ok (.invokevirtual 249, 3) := by decide +kernel
abbrev by_X10_gatherSpan_0_1 : ZB := [(.aload_n 0, .null)]
theorem ky_X10_gatherSpan_0_1 : zchk cX10_gatherSpan by_X10_gatherSpan_0_1 0 = true ∧ zpc by_X10_gatherSpan_0_1 0 = 1 := ⟨by decide +kernel, rfl⟩
abbrev by_X10_gatherSpan_4_5 : ZB := [(.aload_n 0, .null)]
theorem ky_X10_gatherSpan_4_5 : zchk cX10_gatherSpan by_X10_gatherSpan_4_5 4 = true ∧ zpc by_X10_gatherSpan_4_5 4 = 5 := ⟨by decide +kernel, rfl⟩
abbrev by_X10_gatherSpan_11_14 : ZB := [(.bipush (-60), .int (-60)), (.istore_n 1, .null)]
theorem ky_X10_gatherSpan_11_14 : zchk cX10_gatherSpan by_X10_gatherSpan_11_14 11 = true ∧ zpc by_X10_gatherSpan_11_14 11 = 14 := ⟨by decide +kernel, rfl⟩
abbrev by_X10_gatherSpan_14_17 : ZB := [(.iload_n 1, .null), (.bipush 60, .int 60)]
theorem ky_X10_gatherSpan_14_17 : zchk cX10_gatherSpan by_X10_gatherSpan_14_17 14 = true ∧ zpc by_X10_gatherSpan_14_17 14 = 17 := ⟨by decide +kernel, rfl⟩
abbrev by_X10_gatherSpan_20_23 : ZB := [(.bipush (-60), .int (-60)), (.istore_n 2, .null)]
theorem ky_X10_gatherSpan_20_23 : zchk cX10_gatherSpan by_X10_gatherSpan_20_23 20 = true ∧ zpc by_X10_gatherSpan_20_23 20 = 23 := ⟨by decide +kernel, rfl⟩
abbrev by_X10_gatherSpan_23_26 : ZB := [(.iload_n 2, .null), (.bipush 60, .int 60)]
theorem ky_X10_gatherSpan_23_26 : zchk cX10_gatherSpan by_X10_gatherSpan_23_26 23 = true ∧ zpc by_X10_gatherSpan_23_26 23 = 26 := ⟨by decide +kernel, rfl⟩
abbrev by_X10_gatherSpan_58_61 : ZB := [(.iinc 1 1, .int 1)]
theorem ky_X10_gatherSpan_58_61 : zchk cX10_gatherSpan by_X10_gatherSpan_58_61 58 = true ∧ zpc by_X10_gatherSpan_58_61 58 = 61 := ⟨by decide +kernel, rfl⟩
abbrev by_X10_gatherSpan_29_30 : ZB := [(.aload_n 0, .null)]
theorem ky_X10_gatherSpan_29_30 : zchk cX10_gatherSpan by_X10_gatherSpan_29_30 29 = true ∧ zpc by_X10_gatherSpan_29_30 29 = 30 := ⟨by decide +kernel, rfl⟩
abbrev by_X10_gatherSpan_33_35 : ZB := [(.iload_n 1, .null), (.iload_n 2, .null)]
theorem ky_X10_gatherSpan_33_35 : zchk cX10_gatherSpan by_X10_gatherSpan_33_35 33 = true ∧ zpc by_X10_gatherSpan_33_35 33 = 35 := ⟨by decide +kernel, rfl⟩
abbrev by_X10_gatherSpan_38_40 : ZB := [(.bipush (-2), .int (-2))]
theorem ky_X10_gatherSpan_38_40 : zchk cX10_gatherSpan by_X10_gatherSpan_38_40 38 = true ∧ zpc by_X10_gatherSpan_38_40 38 = 40 := ⟨by decide +kernel, rfl⟩
abbrev by_X10_gatherSpan_52_55 : ZB := [(.iinc 2 1, .int 1)]
theorem ky_X10_gatherSpan_52_55 : zchk cX10_gatherSpan by_X10_gatherSpan_52_55 52 = true ∧ zpc by_X10_gatherSpan_52_55 52 = 55 := ⟨by decide +kernel, rfl⟩
abbrev by_X10_gatherSpan_43_44 : ZB := [(.aload_n 0, .null)]
theorem ky_X10_gatherSpan_43_44 : zchk cX10_gatherSpan by_X10_gatherSpan_43_44 43 = true ∧ zpc by_X10_gatherSpan_43_44 43 = 44 := ⟨by decide +kernel, rfl⟩
abbrev by_X10_gatherSpan_47_49 : ZB := [(.iload_n 1, .null), (.iload_n 2, .null)]
theorem ky_X10_gatherSpan_47_49 : zchk cX10_gatherSpan by_X10_gatherSpan_47_49 47 = true ∧ zpc by_X10_gatherSpan_47_49 47 = 49 := ⟨by decide +kernel, rfl⟩
set_option maxHeartbeats 4000000 in
set_option maxRecDepth 100000 in
theorem cy_X10_gatherSpanG (l : Launch) (G : KG) (x : Nat) (x_told : Value) (x_reader : Value) (x_ring : Value) (speeds : Nat) (x_wheel : Value) (trials : Nat) (span : Nat) (x_search : Value) (x_kept : Value) (crosses : Nat) (x_trueMasses : Value) (thought : Nat) (x_up : Value) (x_low : Value) (x_fits : Value) (x_pulls : Value) (sc : Int32) (sf : Nat) (so : Nat) (sX0 : Value) (sX1 : Value) (sX2 : Value) (ff : Nat → Int32) (fo : Nat → Int32) (cr : Nat → Int32) (ft : Nat → Int32) (tc : Int32) (tsp : Nat) (twh : Nat) (tfi : Nat) (tse : Nat) (tgi : Nat) (tle : Nat) (tsc : Nat) (tbx : Nat) (tby : Nat) (fsp : Nat → Int32) (fwh : Nat → Int32) (ffi : Nat → Int32) (fse : Nat → Int32) (fgi : Nat → Int32) (fle : Nat → Int32) (fsc : Nat → Int32) (fbx : Nat → Int32) (fby : Nat → Int32) (ec : Int32) (e1 : Int32) (e2 : Int32) (e3 : Int32) (e4 : Int32) (e5 : Int32) (e6 : Int32) (ex : Nat) (ey : Nat) (fex : Nat → Int32) (fey : Nat → Int32) (tci : Int) (htc : tc.toInt = tci) (ht0 : 0 ≤ tci ∧ tci ≤ 12) (hsp : ∀ j : Nat, (j : Int) < tci → 0 ≤ (fsp j).toInt ∧ (fsp j).toInt < 6) (hg : ∀ j : Nat, (j : Int) < tci → 0 ≤ (fgi j).toInt ∧ (fgi j).toInt ≤ 1000000) : Ct l G yX10_gatherSpan cX10_gatherSpan 3 none { frames := 3, cells := 0, slots := 0, locals := 73 } [.ref x] [(x, ob 10 [x_told, x_reader, x_ring, .ref speeds, x_wheel, .ref trials, .ref span, x_search, x_kept, .ref crosses, x_trueMasses, .ref thought, x_up, x_low, x_fits, x_pulls]), (speeds, ob 7 [.int sc, .ref sf, .ref so, sX0, sX1, sX2]), (sf, aI G 6 ff), (so, aI G 6 fo), (crosses, aI G 4 cr), (thought, aI G 8 ft), (trials, ob 9 [.int tc, .ref tsp, .ref twh, .ref tfi, .ref tse, .ref tgi, .ref tle, .ref tsc, .ref tbx, .ref tby]), (tsp, aI G 12 fsp), (twh, aZ G 12 fwh), (tfi, aI G 12 ffi), (tse, aI G 12 fse), (tgi, aI G 12 fgi), (tle, aI G 48 fle), (tsc, aI G 12 fsc), (tbx, aI G 12 fbx), (tby, aI G 12 fby), (span, ob 1 [.int ec, .int e1, .int e2, .int e3, .int e4, .int e5, .int e6, .ref ex, .ref ey]), (ex, aI G 40 fex), (ey, aI G 40 fey)] (fun r w1 => ∃ (ec2 : Int32), ∃ (fsc2 : Nat → Int32), ∃ (fbx2 : Nat → Int32), ∃ (fby2 : Nat → Int32), ∃ (e12 : Int32), ∃ (e22 : Int32), ∃ (e32 : Int32), ∃ (e42 : Int32), ∃ (e52 : Int32), ∃ (e62 : Int32), ∃ (fex2 : Nat → Int32), ∃ (fey2 : Nat → Int32), (ec2.toInt = ct (fun k => fa (AGx ff fo cr ft (tr6 fsp fwh ffi fse fgi fle) (PX k) (PY k)) tci.toNat 0 = -2) 14641) ∧ r = none ∧ w1 = [(x, ob 10 [x_told, x_reader, x_ring, .ref speeds, x_wheel, .ref trials, .ref span, x_search, x_kept, .ref crosses, x_trueMasses, .ref thought, x_up, x_low, x_fits, x_pulls]), (speeds, ob 7 [.int sc, .ref sf, .ref so, sX0, sX1, sX2]), (sf, aI G 6 ff), (so, aI G 6 fo), (crosses, aI G 4 cr), (thought, aI G 8 ft), (trials, ob 9 [.int tc, .ref tsp, .ref twh, .ref tfi, .ref tse, .ref tgi, .ref tle, .ref tsc, .ref tbx, .ref tby]), (tsp, aI G 12 fsp), (twh, aZ G 12 fwh), (tfi, aI G 12 ffi), (tse, aI G 12 fse), (tgi, aI G 12 fgi), (tle, aI G 48 fle), (tsc, aI G 12 fsc2), (tbx, aI G 12 fbx2), (tby, aI G 12 fby2), (span, ob 1 [.int ec2, .int e12, .int e22, .int e32, .int e42, .int e52, .int e62, .ref ex, .ref ey]), (ex, aI G 40 fex2), (ey, aI G 40 fey2)]) := by
  refine ct_of [(0, .ref x)] (by decide) (Nat.le_of_ble_eq_true rfl) rfl ?_
  intro p0 e0 s0 m0 args0 below0 meth0 c0 A X
  refine z_run X by_X10_gatherSpan_0_1 ky_X10_gatherSpan_0_1 (lv' := [(0, .ref x)]) (st' := [.ref x]) rfl ?_
  refine z_callV X k_10_242 (cy_X10_prepareTrialsG l G x x_told x_reader x_ring speeds x_wheel trials (.ref span) x_search x_kept crosses x_trueMasses thought x_up x_low x_fits x_pulls sc sf so sX0 sX1 sX2 ff fo cr ft tc tsp twh tfi tse tgi tle tsc tbx tby fsp fwh ffi fse fgi fle fsc fbx fby tci htc (by omega) hsp) dy_X10_gatherSpan_1 0 rfl rfl rfl ⟨Nat.le_of_ble_eq_true rfl, Nat.le_of_ble_eq_true rfl⟩ ⟨Nat.le_of_ble_eq_true rfl, Nat.le_of_ble_eq_true rfl⟩ rfl (rest := []) (As := []) rfl (Nat.le_of_ble_eq_true rfl) [0, 1, 2, 3, 4, 5, 6, 7, 8, 9, 10, 11, 12, 13, 14, 15] [16, 17, 18] rfl (by decide) (wr := [(span, ob 1 [.int ec, .int e1, .int e2, .int e3, .int e4, .int e5, .int e6, .ref ex, .ref ey]), (ex, aI G 40 fex), (ey, aI G 40 fey)]) rfl (by decide) (by decide) ?_
  rintro _ _ ⟨fsc2_1, fbx2_2, fby2_3, f1_4, rfl, rfl⟩
  refine Z.at (pc' := 4) (st' := []) (ws' := [(span, ob 1 [.int ec, .int e1, .int e2, .int e3, .int e4, .int e5, .int e6, .ref ex, .ref ey]), (ex, aI G 40 fex), (ey, aI G 40 fey), (x, ob 10 [x_told, x_reader, x_ring, .ref speeds, x_wheel, .ref trials, .ref span, x_search, x_kept, .ref crosses, x_trueMasses, .ref thought, x_up, x_low, x_fits, x_pulls]), (speeds, ob 7 [.int sc, .ref sf, .ref so, sX0, sX1, sX2]), (sf, aI G 6 ff), (so, aI G 6 fo), (crosses, aI G 4 cr), (thought, aI G 8 ft), (trials, ob 9 [.int tc, .ref tsp, .ref twh, .ref tfi, .ref tse, .ref tgi, .ref tle, .ref tsc, .ref tbx, .ref tby]), (tsp, aI G 12 fsp), (twh, aZ G 12 fwh), (tfi, aI G 12 ffi), (tse, aI G 12 fse), (tgi, aI G 12 fgi), (tle, aI G 48 fle), (tsc, aI G 12 fsc2_1), (tbx, aI G 12 fbx2_2), (tby, aI G 12 fby2_3)]) (kc' := 0) (ks' := 0) rfl rfl rfl rfl rfl ?_
  refine z_run X by_X10_gatherSpan_4_5 ky_X10_gatherSpan_4_5 (lv' := [(0, .ref x)]) (st' := [.ref x]) rfl ?_
  refine z_get X fl_10_54 dy_X10_gatherSpan_5 3 rfl (v := .ref span) rfl ?_
  refine z_callV X k_10_245 (cy_X1_startG l G span ec e1 e2 e3 e4 e5 e6 ex ey) dy_X10_gatherSpan_8 0 rfl rfl rfl ⟨Nat.le_of_ble_eq_true rfl, Nat.le_of_ble_eq_true rfl⟩ ⟨Nat.le_of_ble_eq_true rfl, Nat.le_of_ble_eq_true rfl⟩ rfl (rest := []) (As := []) rfl (Nat.le_of_ble_eq_true rfl) [0] [1, 2, 3, 4, 5, 6, 7, 8, 9, 10, 11, 12, 13, 14, 15, 16, 17, 18] rfl (by decide) (wr := [(ex, aI G 40 fex), (ey, aI G 40 fey), (x, ob 10 [x_told, x_reader, x_ring, .ref speeds, x_wheel, .ref trials, .ref span, x_search, x_kept, .ref crosses, x_trueMasses, .ref thought, x_up, x_low, x_fits, x_pulls]), (speeds, ob 7 [.int sc, .ref sf, .ref so, sX0, sX1, sX2]), (sf, aI G 6 ff), (so, aI G 6 fo), (crosses, aI G 4 cr), (thought, aI G 8 ft), (trials, ob 9 [.int tc, .ref tsp, .ref twh, .ref tfi, .ref tse, .ref tgi, .ref tle, .ref tsc, .ref tbx, .ref tby]), (tsp, aI G 12 fsp), (twh, aZ G 12 fwh), (tfi, aI G 12 ffi), (tse, aI G 12 fse), (tgi, aI G 12 fgi), (tle, aI G 48 fle), (tsc, aI G 12 fsc2_1), (tbx, aI G 12 fbx2_2), (tby, aI G 12 fby2_3)]) rfl (by decide) (by decide) ?_
  rintro _ _ ⟨rfl, rfl⟩
  refine Z.at (pc' := 11) (st' := []) (ws' := [(ex, aI G 40 fex), (ey, aI G 40 fey), (x, ob 10 [x_told, x_reader, x_ring, .ref speeds, x_wheel, .ref trials, .ref span, x_search, x_kept, .ref crosses, x_trueMasses, .ref thought, x_up, x_low, x_fits, x_pulls]), (speeds, ob 7 [.int sc, .ref sf, .ref so, sX0, sX1, sX2]), (sf, aI G 6 ff), (so, aI G 6 fo), (crosses, aI G 4 cr), (thought, aI G 8 ft), (trials, ob 9 [.int tc, .ref tsp, .ref twh, .ref tfi, .ref tse, .ref tgi, .ref tle, .ref tsc, .ref tbx, .ref tby]), (tsp, aI G 12 fsp), (twh, aZ G 12 fwh), (tfi, aI G 12 ffi), (tse, aI G 12 fse), (tgi, aI G 12 fgi), (tle, aI G 48 fle), (tsc, aI G 12 fsc2_1), (tbx, aI G 12 fbx2_2), (tby, aI G 12 fby2_3), (span, ob 1 [.int 0, .int e1, .int e2, .int e3, .int e4, .int e5, .int e6, .ref ex, .ref ey])]) (kc' := 0) (ks' := 0) rfl rfl rfl rfl rfl ?_
  refine z_run X by_X10_gatherSpan_11_14 ky_X10_gatherSpan_11_14 (lv' := [(1, .int (-60)), (0, .ref x)]) (st' := []) rfl ?_
  refine zloop (σ := Int32 × Int32 × Int32 × Int32 × Int32 × Int32 × Int32 × Int32 × (Nat → Int32) × (Nat → Int32)) (fun z => [(1, .int z.1), (0, .ref x)]) (fun z => []) (fun z => [(ex, aI G 40 z.2.2.2.2.2.2.2.2.1), (ey, aI G 40 z.2.2.2.2.2.2.2.2.2), (x, ob 10 [x_told, x_reader, x_ring, .ref speeds, x_wheel, .ref trials, .ref span, x_search, x_kept, .ref crosses, x_trueMasses, .ref thought, x_up, x_low, x_fits, x_pulls]), (speeds, ob 7 [.int sc, .ref sf, .ref so, sX0, sX1, sX2]), (sf, aI G 6 ff), (so, aI G 6 fo), (crosses, aI G 4 cr), (thought, aI G 8 ft), (trials, ob 9 [.int tc, .ref tsp, .ref twh, .ref tfi, .ref tse, .ref tgi, .ref tle, .ref tsc, .ref tbx, .ref tby]), (tsp, aI G 12 fsp), (twh, aZ G 12 fwh), (tfi, aI G 12 ffi), (tse, aI G 12 fse), (tgi, aI G 12 fgi), (tle, aI G 48 fle), (tsc, aI G 12 fsc2_1), (tbx, aI G 12 fbx2_2), (tby, aI G 12 fby2_3), (span, ob 1 [.int z.2.1, .int z.2.2.1, .int z.2.2.2.1, .int z.2.2.2.2.1, .int z.2.2.2.2.2.1, .int z.2.2.2.2.2.2.1, .int z.2.2.2.2.2.2.2.1, .ref ex, .ref ey])]) (fun z => (-60 ≤ z.1.toInt ∧ z.1.toInt ≤ 61) ∧ (Eqf z.2.1.toInt (ct (fun k => fa (fun j => agX (fsc2_1 j) (fbx2_2 j) (fby2_3 j) (fwh j) (ffi j) (fse j) (fgi j) (PX k) (PY k)) tci.toNat 0 = -2) ((z.1.toInt + 60) * 121).toNat : Nat))) (fun z => (61 - z.1.toInt).toNat) ((-60), (0 : Int32), e1, e2, e3, e4, e5, e6, fex, fey) ?_ ?_
  ·
    rintro ⟨x_, ec_, e1_, e2_, e3_, e4_, e5_, e6_, gx, gy⟩ ⟨hx, hc_⟩ ih14
    dsimp only at *
    refine z_run X by_X10_gatherSpan_14_17 ky_X10_gatherSpan_14_17 (lv' := [(1, .int x_), (0, .ref x)]) (st' := [.int 60, .int x_]) rfl ?_
    refine zc_gt X dy_X10_gatherSpan_17 (tgt := 64) (by decide) (a := x_.toInt) (b := 60) rfl (show (60 : Int32).toInt = 60 from by decide) (fun c17_5 => ?_) (fun c17_5 => ?_)
    ·
      refine Z.sub (lv' := []) [] rfl [2, 3, 4, 5, 6, 7, 8, 9, 10, 11, 12, 13, 14, 15, 16, 17, 18, 0, 1] (ws' := [(x, ob 10 [x_told, x_reader, x_ring, .ref speeds, x_wheel, .ref trials, .ref span, x_search, x_kept, .ref crosses, x_trueMasses, .ref thought, x_up, x_low, x_fits, x_pulls]), (speeds, ob 7 [.int sc, .ref sf, .ref so, sX0, sX1, sX2]), (sf, aI G 6 ff), (so, aI G 6 fo), (crosses, aI G 4 cr), (thought, aI G 8 ft), (trials, ob 9 [.int tc, .ref tsp, .ref twh, .ref tfi, .ref tse, .ref tgi, .ref tle, .ref tsc, .ref tbx, .ref tby]), (tsp, aI G 12 fsp), (twh, aZ G 12 fwh), (tfi, aI G 12 ffi), (tse, aI G 12 fse), (tgi, aI G 12 fgi), (tle, aI G 48 fle), (tsc, aI G 12 fsc2_1), (tbx, aI G 12 fbx2_2), (tby, aI G 12 fby2_3), (span, ob 1 [.int ec_, .int e1_, .int e2_, .int e3_, .int e4_, .int e5_, .int e6_, .ref ex, .ref ey]), (ex, aI G 40 gx), (ey, aI G 40 gy)]) rfl (by decide) ?_
      exact z_vret X rfl dy_X10_gatherSpan_64 (Nat.le_of_ble_eq_true rfl) (Nat.le_of_ble_eq_true rfl) ⟨ec_, fsc2_1, fbx2_2, fby2_3, e1_, e2_, e3_, e4_, e5_, e6_, gx, gy, (by have e9 : ((x_.toInt + 60) * 121).toNat = 14641 := (by clear hc_; omega); have h9 : ec_.toInt = ((ct (fun k => fa (fun j => agX (fsc2_1 j) (fbx2_2 j) (fby2_3 j) (fwh j) (ffi j) (fse j) (fgi j) (PX k) (PY k)) tci.toNat 0 = -2) ((x_.toInt + 60) * 121).toNat : Nat) : Int) := hc_; rw [e9] at h9; exact h9.trans (congrArg (fun z : Nat => (z : Int)) (ct_congr (fun k _ => by show (fa _ tci.toNat 0 = -2) ↔ (fa _ tci.toNat 0 = -2); rw [← fa_prep (F := (tr6 fsp fwh ffi fse fgi fle)) f1_4]; exact Iff.rfl)))), rfl, rfl⟩
    ·
      refine z_run X by_X10_gatherSpan_20_23 ky_X10_gatherSpan_20_23 (lv' := [(2, .int (-60)), (1, .int x_), (0, .ref x)]) (st' := []) rfl ?_
      refine zloop (σ := Int32 × Int32 × Int32 × Int32 × Int32 × Int32 × Int32 × Int32 × (Nat → Int32) × (Nat → Int32)) (fun z => [(2, .int z.1), (1, .int x_), (0, .ref x)]) (fun z => []) (fun z => [(ex, aI G 40 z.2.2.2.2.2.2.2.2.1), (ey, aI G 40 z.2.2.2.2.2.2.2.2.2), (x, ob 10 [x_told, x_reader, x_ring, .ref speeds, x_wheel, .ref trials, .ref span, x_search, x_kept, .ref crosses, x_trueMasses, .ref thought, x_up, x_low, x_fits, x_pulls]), (speeds, ob 7 [.int sc, .ref sf, .ref so, sX0, sX1, sX2]), (sf, aI G 6 ff), (so, aI G 6 fo), (crosses, aI G 4 cr), (thought, aI G 8 ft), (trials, ob 9 [.int tc, .ref tsp, .ref twh, .ref tfi, .ref tse, .ref tgi, .ref tle, .ref tsc, .ref tbx, .ref tby]), (tsp, aI G 12 fsp), (twh, aZ G 12 fwh), (tfi, aI G 12 ffi), (tse, aI G 12 fse), (tgi, aI G 12 fgi), (tle, aI G 48 fle), (tsc, aI G 12 fsc2_1), (tbx, aI G 12 fbx2_2), (tby, aI G 12 fby2_3), (span, ob 1 [.int z.2.1, .int z.2.2.1, .int z.2.2.2.1, .int z.2.2.2.2.1, .int z.2.2.2.2.2.1, .int z.2.2.2.2.2.2.1, .int z.2.2.2.2.2.2.2.1, .ref ex, .ref ey])]) (fun z => (-60 ≤ z.1.toInt ∧ z.1.toInt ≤ 61) ∧ (Eqf z.2.1.toInt (ct (fun k => fa (fun j => agX (fsc2_1 j) (fbx2_2 j) (fby2_3 j) (fwh j) (ffi j) (fse j) (fgi j) (PX k) (PY k)) tci.toNat 0 = -2) ((x_.toInt + 60) * 121 + (z.1.toInt + 60)).toNat : Nat))) (fun z => (61 - z.1.toInt).toNat) ((-60), ec_, e1_, e2_, e3_, e4_, e5_, e6_, gx, gy) ?_ ?_
      ·
        rintro ⟨y_, ecI_, e1I_, e2I_, e3I_, e4I_, e5I_, e6I_, gxI, gyI⟩ ⟨hy, hd_⟩ ih23
        dsimp only at *
        refine z_run X by_X10_gatherSpan_23_26 ky_X10_gatherSpan_23_26 (lv' := [(2, .int y_), (1, .int x_), (0, .ref x)]) (st' := [.int 60, .int y_]) rfl ?_
        refine zc_gt X dy_X10_gatherSpan_26 (tgt := 58) (by decide) (a := y_.toInt) (b := 60) rfl (show (60 : Int32).toInt = 60 from by decide) (fun c26_6 => ?_) (fun c26_6 => ?_)
        ·
          refine z_run X by_X10_gatherSpan_58_61 ky_X10_gatherSpan_58_61 (lv' := [(1, .int (x_ + 1)), (2, .int y_), (0, .ref x)]) (st' := []) rfl ?_
          refine z_goto X dy_X10_gatherSpan_61 (tgt := 14) (by decide) ?_
          refine Z.sub (lv' := [(1, .int (x_ + 1)), (0, .ref x)]) [0, 2] rfl [0, 1, 2, 3, 4, 5, 6, 7, 8, 9, 10, 11, 12, 13, 14, 15, 16, 17, 18] (ws' := [(ex, aI G 40 gxI), (ey, aI G 40 gyI), (x, ob 10 [x_told, x_reader, x_ring, .ref speeds, x_wheel, .ref trials, .ref span, x_search, x_kept, .ref crosses, x_trueMasses, .ref thought, x_up, x_low, x_fits, x_pulls]), (speeds, ob 7 [.int sc, .ref sf, .ref so, sX0, sX1, sX2]), (sf, aI G 6 ff), (so, aI G 6 fo), (crosses, aI G 4 cr), (thought, aI G 8 ft), (trials, ob 9 [.int tc, .ref tsp, .ref twh, .ref tfi, .ref tse, .ref tgi, .ref tle, .ref tsc, .ref tbx, .ref tby]), (tsp, aI G 12 fsp), (twh, aZ G 12 fwh), (tfi, aI G 12 ffi), (tse, aI G 12 fse), (tgi, aI G 12 fgi), (tle, aI G 48 fle), (tsc, aI G 12 fsc2_1), (tbx, aI G 12 fbx2_2), (tby, aI G 12 fby2_3), (span, ob 1 [.int ecI_, .int e1I_, .int e2I_, .int e3I_, .int e4I_, .int e5I_, .int e6I_, .ref ex, .ref ey])]) rfl (by decide) ?_
          exact ih14 ((x_ + 1), ecI_, e1I_, e2I_, e3I_, e4I_, e5I_, e6I_, gxI, gyI) ⟨(by (try dsimp only); have ex1 : (x_ + 1).toInt = x_.toInt + 1 := tI_add rfl (show (1 : Int32).toInt = 1 from by decide) (by omega); omega), (by (try dsimp only); have ex1 : (x_ + 1).toInt = x_.toInt + 1 := tI_add rfl (show (1 : Int32).toInt = 1 from by decide) (by omega); rw [ex1, show ((x_.toInt + 1 + 60) * 121).toNat = ((x_.toInt + 60) * 121 + (y_.toInt + 60)).toNat by omega]; exact hd_)⟩ (by (try dsimp only); have ex1 : (x_ + 1).toInt = x_.toInt + 1 := tI_add rfl (show (1 : Int32).toInt = 1 from by decide) (by omega); omega)
        ·
          refine z_run X by_X10_gatherSpan_29_30 ky_X10_gatherSpan_29_30 (lv' := [(2, .int y_), (1, .int x_), (0, .ref x)]) (st' := [.ref x]) rfl ?_
          refine z_get X fl_10_47 dy_X10_gatherSpan_30 2 rfl (v := .ref trials) rfl ?_
          refine z_run X by_X10_gatherSpan_33_35 ky_X10_gatherSpan_33_35 (lv' := [(2, .int y_), (1, .int x_), (0, .ref x)]) (st' := [.int y_, .int x_, .ref trials]) rfl ?_
          refine z_callV X k_10_246 (cy_X9_firstAgainstG l G trials tc tsp twh tfi tse tgi tle tsc tbx tby fwh ffi fse fgi fsc2_1 fbx2_2 fby2_3 x_ y_ tci htc (by omega) hg) dy_X10_gatherSpan_35 8 rfl rfl rfl ⟨Nat.le_of_ble_eq_true rfl, Nat.le_of_ble_eq_true rfl⟩ ⟨Nat.le_of_ble_eq_true rfl, Nat.le_of_ble_eq_true rfl⟩ rfl (rest := []) (As := [.int x_, .int y_]) rfl (Nat.le_of_ble_eq_true rfl) [8, 10, 11, 12, 13, 15, 16, 17] [0, 1, 2, 3, 4, 5, 6, 7, 9, 14, 18] rfl (by decide) (wr := [(ex, aI G 40 gxI), (ey, aI G 40 gyI), (x, ob 10 [x_told, x_reader, x_ring, .ref speeds, x_wheel, .ref trials, .ref span, x_search, x_kept, .ref crosses, x_trueMasses, .ref thought, x_up, x_low, x_fits, x_pulls]), (speeds, ob 7 [.int sc, .ref sf, .ref so, sX0, sX1, sX2]), (sf, aI G 6 ff), (so, aI G 6 fo), (crosses, aI G 4 cr), (thought, aI G 8 ft), (tsp, aI G 12 fsp), (tle, aI G 48 fle), (span, ob 1 [.int ecI_, .int e1I_, .int e2I_, .int e3I_, .int e4I_, .int e5I_, .int e6I_, .ref ex, .ref ey])]) rfl (by decide) (by decide) ?_
          rintro _ _ ⟨rz_7, f35_8, rfl, rfl⟩
          refine Z.at (pc' := 38) (st' := [.int rz_7]) (ws' := [(ex, aI G 40 gxI), (ey, aI G 40 gyI), (x, ob 10 [x_told, x_reader, x_ring, .ref speeds, x_wheel, .ref trials, .ref span, x_search, x_kept, .ref crosses, x_trueMasses, .ref thought, x_up, x_low, x_fits, x_pulls]), (speeds, ob 7 [.int sc, .ref sf, .ref so, sX0, sX1, sX2]), (sf, aI G 6 ff), (so, aI G 6 fo), (crosses, aI G 4 cr), (thought, aI G 8 ft), (tsp, aI G 12 fsp), (tle, aI G 48 fle), (span, ob 1 [.int ecI_, .int e1I_, .int e2I_, .int e3I_, .int e4I_, .int e5I_, .int e6I_, .ref ex, .ref ey]), (trials, ob 9 [.int tc, .ref tsp, .ref twh, .ref tfi, .ref tse, .ref tgi, .ref tle, .ref tsc, .ref tbx, .ref tby]), (twh, aZ G 12 fwh), (tfi, aI G 12 ffi), (tse, aI G 12 fse), (tgi, aI G 12 fgi), (tsc, aI G 12 fsc2_1), (tbx, aI G 12 fbx2_2), (tby, aI G 12 fby2_3)]) (kc' := 0) (ks' := 0) rfl rfl rfl rfl rfl ?_
          refine z_run X by_X10_gatherSpan_38_40 ky_X10_gatherSpan_38_40 (lv' := [(2, .int y_), (1, .int x_), (0, .ref x)]) (st' := [.int (-2), .int rz_7]) rfl ?_
          refine zc_ne X dy_X10_gatherSpan_40 (tgt := 52) (by decide) (a := rz_7.toInt) (b := (-2)) rfl (show ((-2) : Int32).toInt = (-2) from by decide) (fun c40_9 => ?_) (fun c40_9 => ?_)
          ·
            refine z_run X by_X10_gatherSpan_52_55 ky_X10_gatherSpan_52_55 (lv' := [(2, .int (y_ + 1)), (1, .int x_), (0, .ref x)]) (st' := []) rfl ?_
            refine z_goto X dy_X10_gatherSpan_55 (tgt := 23) (by decide) ?_
            refine Z.sub (lv' := [(2, .int (y_ + 1)), (1, .int x_), (0, .ref x)]) [0, 1, 2] rfl [0, 1, 2, 3, 4, 5, 6, 7, 11, 8, 12, 13, 14, 15, 9, 16, 17, 18, 10] (ws' := [(ex, aI G 40 gxI), (ey, aI G 40 gyI), (x, ob 10 [x_told, x_reader, x_ring, .ref speeds, x_wheel, .ref trials, .ref span, x_search, x_kept, .ref crosses, x_trueMasses, .ref thought, x_up, x_low, x_fits, x_pulls]), (speeds, ob 7 [.int sc, .ref sf, .ref so, sX0, sX1, sX2]), (sf, aI G 6 ff), (so, aI G 6 fo), (crosses, aI G 4 cr), (thought, aI G 8 ft), (trials, ob 9 [.int tc, .ref tsp, .ref twh, .ref tfi, .ref tse, .ref tgi, .ref tle, .ref tsc, .ref tbx, .ref tby]), (tsp, aI G 12 fsp), (twh, aZ G 12 fwh), (tfi, aI G 12 ffi), (tse, aI G 12 fse), (tgi, aI G 12 fgi), (tle, aI G 48 fle), (tsc, aI G 12 fsc2_1), (tbx, aI G 12 fbx2_2), (tby, aI G 12 fby2_3), (span, ob 1 [.int ecI_, .int e1I_, .int e2I_, .int e3I_, .int e4I_, .int e5I_, .int e6I_, .ref ex, .ref ey])]) rfl (by decide) ?_
            exact ih23 ((y_ + 1), ecI_, e1I_, e2I_, e3I_, e4I_, e5I_, e6I_, gxI, gyI) ⟨(by (try dsimp only); have ey1 : (y_ + 1).toInt = y_.toInt + 1 := (by clear hd_ c40_9 f35_8; exact tI_add rfl (show (1 : Int32).toInt = 1 from by decide) (by omega)); clear hd_ c40_9 f35_8; omega), (by (try dsimp only); have hk1 : (((((x_.toInt + 60) * 121 + (y_.toInt + 60)).toNat : Nat) : Int)) = (x_.toInt + 60) * 121 + (y_.toInt + 60) := (by clear hd_ c40_9 f35_8; omega); have hpx : x_ = PX ((x_.toInt + 60) * 121 + (y_.toInt + 60)).toNat := PX_of (by clear hd_ c40_9 f35_8; rw [hk1]; omega); have hpy : y_ = PY ((x_.toInt + 60) * 121 + (y_.toInt + 60)).toNat := PY_of (by clear hd_ hpx c40_9 f35_8; rw [hk1]; omega); have ey1 : (y_ + 1).toInt = y_.toInt + 1 := (by clear hd_ c40_9 f35_8; exact tI_add rfl (show (1 : Int32).toInt = 1 from by decide) (by omega)); have hkn : ((x_.toInt + 60) * 121 + ((y_ + 1).toInt + 60)).toNat = ((x_.toInt + 60) * 121 + (y_.toInt + 60)).toNat + 1 := (by clear hd_ hpx hpy c40_9 f35_8; omega); rw [hkn]; have hQ : ¬ (fun k => fa (fun j => agX (fsc2_1 j) (fbx2_2 j) (fby2_3 j) (fwh j) (ffi j) (fse j) (fgi j) (PX k) (PY k)) tci.toNat 0 = -2) ((x_.toInt + 60) * 121 + (y_.toInt + 60)).toNat := (show ¬ fa (fun j => agX (fsc2_1 j) (fbx2_2 j) (fby2_3 j) (fwh j) (ffi j) (fse j) (fgi j) (PX ((x_.toInt + 60) * 121 + (y_.toInt + 60)).toNat) (PY ((x_.toInt + 60) * 121 + (y_.toInt + 60)).toNat)) tci.toNat 0 = -2 from by rw [← hpx, ← hpy]; exact fun z => c40_9 (f35_8.trans z)); rw [ct_no hQ]; exact hd_)⟩ (by (try dsimp only); have ey1 : (y_ + 1).toInt = y_.toInt + 1 := (by clear hd_ c40_9 f35_8; exact tI_add rfl (show (1 : Int32).toInt = 1 from by decide) (by omega)); clear hd_ c40_9 f35_8; omega)
          ·
            refine z_run X by_X10_gatherSpan_43_44 ky_X10_gatherSpan_43_44 (lv' := [(2, .int y_), (1, .int x_), (0, .ref x)]) (st' := [.ref x]) rfl ?_
            refine z_get X fl_10_54 dy_X10_gatherSpan_44 2 rfl (v := .ref span) rfl ?_
            refine z_run X by_X10_gatherSpan_47_49 ky_X10_gatherSpan_47_49 (lv' := [(2, .int y_), (1, .int x_), (0, .ref x)]) (st' := [.int y_, .int x_, .ref span]) rfl ?_
            refine z_callV X k_10_249 (cy_X1_takeG l G span ecI_ e1I_ e2I_ e3I_ e4I_ e5I_ e6I_ ex ey gxI gyI x_ y_ ecI_.toInt rfl (by have z := ct_le (Q := (fun k => fa (fun j => agX (fsc2_1 j) (fbx2_2 j) (fby2_3 j) (fwh j) (ffi j) (fse j) (fgi j) (PX k) (PY k)) tci.toNat 0 = -2)) (n := ((x_.toInt + 60) * 121 + (y_.toInt + 60)).toNat); have z2 : ecI_.toInt = ((ct (fun k => fa (fun j => agX (fsc2_1 j) (fbx2_2 j) (fby2_3 j) (fwh j) (ffi j) (fse j) (fgi j) (PX k) (PY k)) tci.toNat 0 = -2) ((x_.toInt + 60) * 121 + (y_.toInt + 60)).toNat : Nat) : Int) := hd_; clear hd_ c40_9 f35_8; generalize ct (fun k => fa (fun j => agX (fsc2_1 j) (fbx2_2 j) (fby2_3 j) (fwh j) (ffi j) (fse j) (fgi j) (PX k) (PY k)) tci.toNat 0 = -2) ((x_.toInt + 60) * 121 + (y_.toInt + 60)).toNat = cq_ at z z2; omega)) dy_X10_gatherSpan_49 10 rfl rfl rfl ⟨Nat.le_of_ble_eq_true rfl, Nat.le_of_ble_eq_true rfl⟩ ⟨Nat.le_of_ble_eq_true rfl, Nat.le_of_ble_eq_true rfl⟩ rfl (rest := []) (As := [.int x_, .int y_]) rfl (Nat.le_of_ble_eq_true rfl) [10, 0, 1] [2, 3, 4, 5, 6, 7, 8, 9, 11, 12, 13, 14, 15, 16, 17, 18] rfl (by decide) (wr := [(x, ob 10 [x_told, x_reader, x_ring, .ref speeds, x_wheel, .ref trials, .ref span, x_search, x_kept, .ref crosses, x_trueMasses, .ref thought, x_up, x_low, x_fits, x_pulls]), (speeds, ob 7 [.int sc, .ref sf, .ref so, sX0, sX1, sX2]), (sf, aI G 6 ff), (so, aI G 6 fo), (crosses, aI G 4 cr), (thought, aI G 8 ft), (tsp, aI G 12 fsp), (tle, aI G 48 fle), (trials, ob 9 [.int tc, .ref tsp, .ref twh, .ref tfi, .ref tse, .ref tgi, .ref tle, .ref tsc, .ref tbx, .ref tby]), (twh, aZ G 12 fwh), (tfi, aI G 12 ffi), (tse, aI G 12 fse), (tgi, aI G 12 fgi), (tsc, aI G 12 fsc2_1), (tbx, aI G 12 fbx2_2), (tby, aI G 12 fby2_3)]) rfl (by decide) (by decide) ?_
            rintro _ _ ⟨e12_10, e22_11, e32_12, e42_13, e52_14, e62_15, fex2_16, fey2_17, rfl, rfl⟩
            refine Z.at (pc' := 52) (st' := []) (ws' := [(x, ob 10 [x_told, x_reader, x_ring, .ref speeds, x_wheel, .ref trials, .ref span, x_search, x_kept, .ref crosses, x_trueMasses, .ref thought, x_up, x_low, x_fits, x_pulls]), (speeds, ob 7 [.int sc, .ref sf, .ref so, sX0, sX1, sX2]), (sf, aI G 6 ff), (so, aI G 6 fo), (crosses, aI G 4 cr), (thought, aI G 8 ft), (tsp, aI G 12 fsp), (tle, aI G 48 fle), (trials, ob 9 [.int tc, .ref tsp, .ref twh, .ref tfi, .ref tse, .ref tgi, .ref tle, .ref tsc, .ref tbx, .ref tby]), (twh, aZ G 12 fwh), (tfi, aI G 12 ffi), (tse, aI G 12 fse), (tgi, aI G 12 fgi), (tsc, aI G 12 fsc2_1), (tbx, aI G 12 fbx2_2), (tby, aI G 12 fby2_3), (span, ob 1 [.int (ecI_ + 1), .int e12_10, .int e22_11, .int e32_12, .int e42_13, .int e52_14, .int e62_15, .ref ex, .ref ey]), (ex, aI G 40 fex2_16), (ey, aI G 40 fey2_17)]) (kc' := 0) (ks' := 0) rfl rfl rfl rfl rfl ?_
            refine z_run X by_X10_gatherSpan_52_55 ky_X10_gatherSpan_52_55 (lv' := [(2, .int (y_ + 1)), (1, .int x_), (0, .ref x)]) (st' := []) rfl ?_
            refine z_goto X dy_X10_gatherSpan_55 (tgt := 23) (by decide) ?_
            refine Z.sub (lv' := [(2, .int (y_ + 1)), (1, .int x_), (0, .ref x)]) [0, 1, 2] rfl [17, 18, 0, 1, 2, 3, 4, 5, 8, 6, 9, 10, 11, 12, 7, 13, 14, 15, 16] (ws' := [(ex, aI G 40 fex2_16), (ey, aI G 40 fey2_17), (x, ob 10 [x_told, x_reader, x_ring, .ref speeds, x_wheel, .ref trials, .ref span, x_search, x_kept, .ref crosses, x_trueMasses, .ref thought, x_up, x_low, x_fits, x_pulls]), (speeds, ob 7 [.int sc, .ref sf, .ref so, sX0, sX1, sX2]), (sf, aI G 6 ff), (so, aI G 6 fo), (crosses, aI G 4 cr), (thought, aI G 8 ft), (trials, ob 9 [.int tc, .ref tsp, .ref twh, .ref tfi, .ref tse, .ref tgi, .ref tle, .ref tsc, .ref tbx, .ref tby]), (tsp, aI G 12 fsp), (twh, aZ G 12 fwh), (tfi, aI G 12 ffi), (tse, aI G 12 fse), (tgi, aI G 12 fgi), (tle, aI G 48 fle), (tsc, aI G 12 fsc2_1), (tbx, aI G 12 fbx2_2), (tby, aI G 12 fby2_3), (span, ob 1 [.int (ecI_ + 1), .int e12_10, .int e22_11, .int e32_12, .int e42_13, .int e52_14, .int e62_15, .ref ex, .ref ey])]) rfl (by decide) ?_
            exact ih23 ((y_ + 1), (ecI_ + 1), e12_10, e22_11, e32_12, e42_13, e52_14, e62_15, fex2_16, fey2_17) ⟨(by (try dsimp only); have ey1 : (y_ + 1).toInt = y_.toInt + 1 := (by clear hd_ c40_9 f35_8; exact tI_add rfl (show (1 : Int32).toInt = 1 from by decide) (by omega)); clear hd_ c40_9 f35_8; omega), (by (try dsimp only); have hk1 : (((((x_.toInt + 60) * 121 + (y_.toInt + 60)).toNat : Nat) : Int)) = (x_.toInt + 60) * 121 + (y_.toInt + 60) := (by clear hd_ c40_9 f35_8; omega); have hpx : x_ = PX ((x_.toInt + 60) * 121 + (y_.toInt + 60)).toNat := PX_of (by clear hd_ c40_9 f35_8; rw [hk1]; omega); have hpy : y_ = PY ((x_.toInt + 60) * 121 + (y_.toInt + 60)).toNat := PY_of (by clear hd_ hpx c40_9 f35_8; rw [hk1]; omega); have ey1 : (y_ + 1).toInt = y_.toInt + 1 := (by clear hd_ c40_9 f35_8; exact tI_add rfl (show (1 : Int32).toInt = 1 from by decide) (by omega)); have hkn : ((x_.toInt + 60) * 121 + ((y_ + 1).toInt + 60)).toNat = ((x_.toInt + 60) * 121 + (y_.toInt + 60)).toNat + 1 := (by clear hd_ hpx hpy c40_9 f35_8; omega); rw [hkn]; have hQ : (fun k => fa (fun j => agX (fsc2_1 j) (fbx2_2 j) (fby2_3 j) (fwh j) (ffi j) (fse j) (fgi j) (PX k) (PY k)) tci.toNat 0 = -2) ((x_.toInt + 60) * 121 + (y_.toInt + 60)).toNat := (show fa (fun j => agX (fsc2_1 j) (fbx2_2 j) (fby2_3 j) (fwh j) (ffi j) (fse j) (fgi j) (PX ((x_.toInt + 60) * 121 + (y_.toInt + 60)).toNat) (PY ((x_.toInt + 60) * 121 + (y_.toInt + 60)).toNat)) tci.toNat 0 = -2 from by rw [← hpx, ← hpy]; exact f35_8.symm.trans c40_9); rw [ct_yes hQ]; exact (show (ecI_ + 1).toInt = _ from (tI_add (hd_ : ecI_.toInt = _) (show (1 : Int32).toInt = 1 from by decide) (by have hl_ := ct_le (Q := (fun k => fa (fun j => agX (fsc2_1 j) (fbx2_2 j) (fby2_3 j) (fwh j) (ffi j) (fse j) (fgi j) (PX k) (PY k)) tci.toNat 0 = -2)) (n := ((x_.toInt + 60) * 121 + (y_.toInt + 60)).toNat); clear hQ hpx hpy hd_ c40_9 f35_8; omega)).trans (by rw [Int.natCast_add]; rfl)))⟩ (by (try dsimp only); have ey1 : (y_ + 1).toInt = y_.toInt + 1 := (by clear hd_ c40_9 f35_8; exact tI_add rfl (show (1 : Int32).toInt = 1 from by decide) (by omega)); clear hd_ c40_9 f35_8; omega)
      · exact ⟨(by (try dsimp only); have em : (-60 : Int32).toInt = -60 := (by decide); omega), (by (try dsimp only); have em : (-60 : Int32).toInt = -60 := (by decide); rw [em, show ((x_.toInt + 60) * 121 + (-60 + 60)).toNat = ((x_.toInt + 60) * 121).toNat by clear hc_; omega]; exact hc_)⟩
  · exact ⟨(by (try dsimp only); have em : (-60 : Int32).toInt = -60 := (by decide); omega), (by (try dsimp only); have em : (-60 : Int32).toInt = -60 := (by decide); rw [em]; exact (show (0 : Int32).toInt = 0 from by decide))⟩

theorem dy_X8_start_2 : decode cX8_start 2 = .ok (.putfield 15, 3) := by decide +kernel
theorem dy_X8_start_5 : decode cX8_start 5 = .ok (.return_, 1) := by decide +kernel
abbrev by_X8_start_0_2 : ZB := [(.aload_n 0, .null), (.iconst 0, .int 0)]
theorem ky_X8_start_0_2 : zchk cX8_start by_X8_start_0_2 0 = true ∧ zpc by_X8_start_0_2 0 = 2 := ⟨by decide +kernel, rfl⟩
set_option maxHeartbeats 4000000 in
set_option maxRecDepth 100000 in
theorem cy_X8_startG (l : Launch) (G : KG) (told : Nat) (tn : Nat) (tl : Int32) (fn : Nat → Int64) : Ct l G yX8_start cX8_start 1 none { frames := 0, cells := 0, slots := 0, locals := 0 } [.ref told] [(told, ob 8 [.ref tn, .int tl]), (tn, aJ G 16 fn)] (fun r w1 => r = none ∧ w1 = [(told, ob 8 [.ref tn, .int 0]), (tn, aJ G 16 fn)]) := by
  refine ct_of [(0, .ref told)] (by decide) (Nat.le_of_ble_eq_true rfl) rfl ?_
  intro p0 e0 s0 m0 args0 below0 meth0 c0 A X
  refine z_run X by_X8_start_0_2 ky_X8_start_0_2 (lv' := [(0, .ref told)]) (st' := [.int 0, .ref told]) rfl ?_
  refine z_put X fl_8_15 dy_X8_start_2 0 rfl (ty := .int) (T := TX8) (N := 2) rfl (Or.inl rfl) (by decide +kernel) rfl (by rfl) (Nat.le_of_ble_eq_true rfl) (ws' := [(told, ob 8 [.ref tn, .int 0]), (tn, aJ G 16 fn)]) rfl ?_
  exact z_vret X rfl dy_X8_start_5 (Nat.le_of_ble_eq_true rfl) (Nat.le_of_ble_eq_true rfl) ⟨rfl, rfl⟩

theorem dy_X8_add_1 : decode cX8_add 1 = .ok (.getfield 15, 3) := by decide +kernel
theorem dy_X8_add_5 : decode cX8_add 5 = .ok (.getfield 9, 3) := by decide +kernel
theorem dy_X8_add_8 : decode cX8_add 8 = .ok (.arraylength, 1) := by decide +kernel
theorem dy_X8_add_9 : decode cX8_add 9 = .ok (.if_icmp .ge 23, 3) := by decide +kernel
theorem dy_X8_add_32 : decode cX8_add 32 = .ok (.return_, 1) := by decide +kernel
theorem dy_X8_add_13 : decode cX8_add 13 = .ok (.getfield 9, 3) := by decide +kernel
theorem dy_X8_add_17 : decode cX8_add 17 = .ok (.getfield 15, 3) := by decide +kernel
theorem dy_X8_add_21 : decode cX8_add 21 = .ok (.lastore, 1) := by decide +kernel
theorem dy_X8_add_24 : decode cX8_add 24 = .ok (.getfield 15, 3) := by decide +kernel
theorem dy_X8_add_29 : decode cX8_add 29 = .ok (.putfield 15, 3) := by decide +kernel
abbrev by_X8_add_0_1 : ZB := [(.aload_n 0, .null)]
theorem ky_X8_add_0_1 : zchk cX8_add by_X8_add_0_1 0 = true ∧ zpc by_X8_add_0_1 0 = 1 := ⟨by decide +kernel, rfl⟩
abbrev by_X8_add_4_5 : ZB := [(.aload_n 0, .null)]
theorem ky_X8_add_4_5 : zchk cX8_add by_X8_add_4_5 4 = true ∧ zpc by_X8_add_4_5 4 = 5 := ⟨by decide +kernel, rfl⟩
abbrev by_X8_add_12_13 : ZB := [(.aload_n 0, .null)]
theorem ky_X8_add_12_13 : zchk cX8_add by_X8_add_12_13 12 = true ∧ zpc by_X8_add_12_13 12 = 13 := ⟨by decide +kernel, rfl⟩
abbrev by_X8_add_16_17 : ZB := [(.aload_n 0, .null)]
theorem ky_X8_add_16_17 : zchk cX8_add by_X8_add_16_17 16 = true ∧ zpc by_X8_add_16_17 16 = 17 := ⟨by decide +kernel, rfl⟩
abbrev by_X8_add_20_21 : ZB := [(.lload_n 1, .null)]
theorem ky_X8_add_20_21 : zchk cX8_add by_X8_add_20_21 20 = true ∧ zpc by_X8_add_20_21 20 = 21 := ⟨by decide +kernel, rfl⟩
abbrev by_X8_add_22_24 : ZB := [(.aload_n 0, .null), (.dup, .null)]
theorem ky_X8_add_22_24 : zchk cX8_add by_X8_add_22_24 22 = true ∧ zpc by_X8_add_22_24 22 = 24 := ⟨by decide +kernel, rfl⟩
abbrev by_X8_add_27_29 : ZB := [(.iconst 1, .int 1), (.iadd, .null)]
theorem ky_X8_add_27_29 : zchk cX8_add by_X8_add_27_29 27 = true ∧ zpc by_X8_add_27_29 27 = 29 := ⟨by decide +kernel, rfl⟩
set_option maxHeartbeats 4000000 in
set_option maxRecDepth 100000 in
theorem cy_X8_addG (l : Launch) (G : KG) (told : Nat) (tn : Nat) (tl : Int32) (fn : Nat → Int64) (v : Int64) (tli : Int) (htl : tl.toInt = tli) (ht16 : 0 ≤ tli ∧ tli ≤ 16) : Ct l G yX8_add cX8_add 3 none { frames := 0, cells := 0, slots := 0, locals := 0 } [.ref told, .long v] [(told, ob 8 [.ref tn, .int tl]), (tn, aJ G 16 fn)] (fun r w1 => ∃ (tl2 : Int32), ∃ (fn2 : Nat → Int64), (0 ≤ tl2.toInt ∧ tl2.toInt ≤ 16) ∧ r = none ∧ w1 = [(told, ob 8 [.ref tn, .int tl2]), (tn, aJ G 16 fn2)]) := by
  refine ct_of [(0, .ref told), (1, .long v)] (by decide) (Nat.le_of_ble_eq_true rfl) rfl ?_
  intro p0 e0 s0 m0 args0 below0 meth0 c0 A X
  refine z_run X by_X8_add_0_1 ky_X8_add_0_1 (lv' := [(0, .ref told), (1, .long v)]) (st' := [.ref told]) rfl ?_
  refine z_get X fl_8_15 dy_X8_add_1 0 rfl (v := .int tl) rfl ?_
  refine z_run X by_X8_add_4_5 ky_X8_add_4_5 (lv' := [(0, .ref told), (1, .long v)]) (st' := [.ref told, .int tl]) rfl ?_
  refine z_get X fl_8_9 dy_X8_add_5 0 rfl (v := .ref tn) rfl ?_
  refine z_alen X dy_X8_add_8 1 1 rfl rfl (v := 16) rfl ?_
  refine zc_ge X dy_X8_add_9 (tgt := 32) (by decide) (a := tli) (b := 16) htl (show (16 : Int32).toInt = 16 from by decide) (fun c9_1 => ?_) (fun c9_1 => ?_)
  ·
    exact z_vret X rfl dy_X8_add_32 (Nat.le_of_ble_eq_true rfl) (Nat.le_of_ble_eq_true rfl) ⟨tl, fn, (by have e : (tl : Int32).toInt = tli := htl; omega), rfl, rfl⟩
  ·
    refine z_run X by_X8_add_12_13 ky_X8_add_12_13 (lv' := [(0, .ref told), (1, .long v)]) (st' := [.ref told]) rfl ?_
    refine z_get X fl_8_9 dy_X8_add_13 0 rfl (v := .ref tn) rfl ?_
    refine z_run X by_X8_add_16_17 ky_X8_add_16_17 (lv' := [(0, .ref told), (1, .long v)]) (st' := [.ref told, .ref tn]) rfl ?_
    refine z_get X fl_8_15 dy_X8_add_17 0 rfl (v := .int tl) rfl ?_
    refine z_run X by_X8_add_20_21 ky_X8_add_20_21 (lv' := [(0, .ref told), (1, .long v)]) (st' := [.long v, .int tl, .ref tn]) rfl ?_
    refine z_last X dy_X8_add_21 1 rfl (vin htl (by omega) (by omega)) (ws' := [(told, ob 8 [.ref tn, .int tl]), (tn, aJ G 16 (vp_updL fn tl.toNatClampNeg v))]) rfl ?_
    refine z_run X by_X8_add_22_24 ky_X8_add_22_24 (lv' := [(0, .ref told), (1, .long v)]) (st' := [.ref told, .ref told]) rfl ?_
    refine z_get X fl_8_15 dy_X8_add_24 0 rfl (v := .int tl) rfl ?_
    refine z_run X by_X8_add_27_29 ky_X8_add_27_29 (lv' := [(0, .ref told), (1, .long v)]) (st' := [.int (tl + 1), .ref told]) rfl ?_
    refine z_put X fl_8_15 dy_X8_add_29 0 rfl (ty := .int) (T := TX8) (N := 2) rfl (Or.inl rfl) (by decide +kernel) rfl (by rfl) (Nat.le_of_ble_eq_true rfl) (ws' := [(told, ob 8 [.ref tn, .int (tl + 1)]), (tn, aJ G 16 (vp_updL fn tl.toNatClampNeg v))]) rfl ?_
    exact z_vret X rfl dy_X8_add_32 (Nat.le_of_ble_eq_true rfl) (Nat.le_of_ble_eq_true rfl) ⟨(tl + 1), (vp_updL fn tl.toNatClampNeg v), (by have e : ((tl + 1) : Int32).toInt = (tli + 1) := (tI_add htl (show (1 : Int32).toInt = 1 from by decide) (by omega)); omega), rfl, rfl⟩

theorem dy_X10_which_1 : decode cX10_which 1 = .ok (.invokevirtual 216, 3) := by decide +kernel
theorem dy_X10_which_5 : decode cX10_which 5 = .ok (.getfield 12, 3) := by decide +kernel
theorem dy_X10_which_8 : decode cX10_which 8 = .ok (.invokevirtual 180, 3) := by decide +kernel
theorem dy_X10_which_12 : decode cX10_which 12 = .ok (.getfield 54, 3) := by decide +kernel
theorem dy_X10_which_15 : decode cX10_which 15 = .ok (.getfield 219, 3) := by decide +kernel
theorem dy_X10_which_18 : decode cX10_which 18 = .ok (.ifCond .le 63, 3) := by decide +kernel
theorem dy_X10_which_82 : decode cX10_which 82 = .ok (.getfield 54, 3) := by decide +kernel
theorem dy_X10_which_85 : decode cX10_which 85 = .ok (.getfield 219, 3) := by decide +kernel
theorem dy_X10_which_88 : decode cX10_which 88 = .ok (.ireturn, 1) := by decide +kernel
theorem dy_X10_which_22 : decode cX10_which 22 = .ok (.getfield 12, 3) := by decide +kernel
theorem dy_X10_which_26 : decode cX10_which 26 = .ok (.getfield 54, 3) := by decide +kernel
theorem dy_X10_which_29 : decode cX10_which 29 = .ok (.getfield 220, 3) := by decide +kernel
theorem dy_X10_which_33 : decode cX10_which 33 = .ok (.invokevirtual 183, 3) := by decide +kernel
theorem dy_X10_which_37 : decode cX10_which 37 = .ok (.getfield 12, 3) := by decide +kernel
theorem dy_X10_which_41 : decode cX10_which 41 = .ok (.getfield 54, 3) := by decide +kernel
theorem dy_X10_which_44 : decode cX10_which 44 = .ok (.getfield 223, 3) := by decide +kernel
theorem dy_X10_which_48 : decode cX10_which 48 = .ok (.invokevirtual 183, 3) := by decide +kernel
theorem dy_X10_which_52 : decode cX10_which 52 = .ok (.getfield 12, 3) := by decide +kernel
theorem dy_X10_which_56 : decode cX10_which 56 = .ok (.getfield 54, 3) := by decide +kernel
theorem dy_X10_which_59 : decode cX10_which 59 = .ok (.getfield 226, 3) := by decide +kernel
theorem dy_X10_which_63 : decode cX10_which 63 = .ok (.invokevirtual 183, 3) := by decide +kernel
theorem dy_X10_which_67 : decode cX10_which 67 = .ok (.getfield 12, 3) := by decide +kernel
theorem dy_X10_which_71 : decode cX10_which 71 = .ok (.getfield 54, 3) := by decide +kernel
theorem dy_X10_which_74 : decode cX10_which 74 = .ok (.getfield 229, 3) := by decide +kernel
theorem dy_X10_which_78 : decode cX10_which 78 = .ok (.invokevirtual 183, 3) := by decide +kernel
abbrev by_X10_which_0_1 : ZB := [(.aload_n 0, .null)]
theorem ky_X10_which_0_1 : zchk cX10_which by_X10_which_0_1 0 = true ∧ zpc by_X10_which_0_1 0 = 1 := ⟨by decide +kernel, rfl⟩
abbrev by_X10_which_4_5 : ZB := [(.aload_n 0, .null)]
theorem ky_X10_which_4_5 : zchk cX10_which by_X10_which_4_5 4 = true ∧ zpc by_X10_which_4_5 4 = 5 := ⟨by decide +kernel, rfl⟩
abbrev by_X10_which_11_12 : ZB := [(.aload_n 0, .null)]
theorem ky_X10_which_11_12 : zchk cX10_which by_X10_which_11_12 11 = true ∧ zpc by_X10_which_11_12 11 = 12 := ⟨by decide +kernel, rfl⟩
abbrev by_X10_which_81_82 : ZB := [(.aload_n 0, .null)]
theorem ky_X10_which_81_82 : zchk cX10_which by_X10_which_81_82 81 = true ∧ zpc by_X10_which_81_82 81 = 82 := ⟨by decide +kernel, rfl⟩
abbrev by_X10_which_21_22 : ZB := [(.aload_n 0, .null)]
theorem ky_X10_which_21_22 : zchk cX10_which by_X10_which_21_22 21 = true ∧ zpc by_X10_which_21_22 21 = 22 := ⟨by decide +kernel, rfl⟩
abbrev by_X10_which_25_26 : ZB := [(.aload_n 0, .null)]
theorem ky_X10_which_25_26 : zchk cX10_which by_X10_which_25_26 25 = true ∧ zpc by_X10_which_25_26 25 = 26 := ⟨by decide +kernel, rfl⟩
abbrev by_X10_which_32_33 : ZB := [(.i2l, .null)]
theorem ky_X10_which_32_33 : zchk cX10_which by_X10_which_32_33 32 = true ∧ zpc by_X10_which_32_33 32 = 33 := ⟨by decide +kernel, rfl⟩
abbrev by_X10_which_36_37 : ZB := [(.aload_n 0, .null)]
theorem ky_X10_which_36_37 : zchk cX10_which by_X10_which_36_37 36 = true ∧ zpc by_X10_which_36_37 36 = 37 := ⟨by decide +kernel, rfl⟩
abbrev by_X10_which_40_41 : ZB := [(.aload_n 0, .null)]
theorem ky_X10_which_40_41 : zchk cX10_which by_X10_which_40_41 40 = true ∧ zpc by_X10_which_40_41 40 = 41 := ⟨by decide +kernel, rfl⟩
abbrev by_X10_which_47_48 : ZB := [(.i2l, .null)]
theorem ky_X10_which_47_48 : zchk cX10_which by_X10_which_47_48 47 = true ∧ zpc by_X10_which_47_48 47 = 48 := ⟨by decide +kernel, rfl⟩
abbrev by_X10_which_51_52 : ZB := [(.aload_n 0, .null)]
theorem ky_X10_which_51_52 : zchk cX10_which by_X10_which_51_52 51 = true ∧ zpc by_X10_which_51_52 51 = 52 := ⟨by decide +kernel, rfl⟩
abbrev by_X10_which_55_56 : ZB := [(.aload_n 0, .null)]
theorem ky_X10_which_55_56 : zchk cX10_which by_X10_which_55_56 55 = true ∧ zpc by_X10_which_55_56 55 = 56 := ⟨by decide +kernel, rfl⟩
abbrev by_X10_which_62_63 : ZB := [(.i2l, .null)]
theorem ky_X10_which_62_63 : zchk cX10_which by_X10_which_62_63 62 = true ∧ zpc by_X10_which_62_63 62 = 63 := ⟨by decide +kernel, rfl⟩
abbrev by_X10_which_66_67 : ZB := [(.aload_n 0, .null)]
theorem ky_X10_which_66_67 : zchk cX10_which by_X10_which_66_67 66 = true ∧ zpc by_X10_which_66_67 66 = 67 := ⟨by decide +kernel, rfl⟩
abbrev by_X10_which_70_71 : ZB := [(.aload_n 0, .null)]
theorem ky_X10_which_70_71 : zchk cX10_which by_X10_which_70_71 70 = true ∧ zpc by_X10_which_70_71 70 = 71 := ⟨by decide +kernel, rfl⟩
abbrev by_X10_which_77_78 : ZB := [(.i2l, .null)]
theorem ky_X10_which_77_78 : zchk cX10_which by_X10_which_77_78 77 = true ∧ zpc by_X10_which_77_78 77 = 78 := ⟨by decide +kernel, rfl⟩
set_option maxHeartbeats 4000000 in
set_option maxRecDepth 100000 in
theorem cy_X10_whichG (l : Launch) (G : KG) (x : Nat) (told : Nat) (x_reader : Value) (x_ring : Value) (speeds : Nat) (x_wheel : Value) (trials : Nat) (span : Nat) (x_search : Value) (x_kept : Value) (crosses : Nat) (x_trueMasses : Value) (thought : Nat) (x_up : Value) (x_low : Value) (x_fits : Value) (x_pulls : Value) (tn : Nat) (tl : Int32) (fn : Nat → Int64) (sc : Int32) (sf : Nat) (so : Nat) (sX0 : Value) (sX1 : Value) (sX2 : Value) (ff : Nat → Int32) (fo : Nat → Int32) (cr : Nat → Int32) (ft : Nat → Int32) (tc : Int32) (tsp : Nat) (twh : Nat) (tfi : Nat) (tse : Nat) (tgi : Nat) (tle : Nat) (tsc : Nat) (tbx : Nat) (tby : Nat) (fsp : Nat → Int32) (fwh : Nat → Int32) (ffi : Nat → Int32) (fse : Nat → Int32) (fgi : Nat → Int32) (fle : Nat → Int32) (fsc : Nat → Int32) (fbx : Nat → Int32) (fby : Nat → Int32) (ec : Int32) (e1 : Int32) (e2 : Int32) (e3 : Int32) (e4 : Int32) (e5 : Int32) (e6 : Int32) (ex : Nat) (ey : Nat) (fex : Nat → Int32) (fey : Nat → Int32) (tci : Int) (htc : tc.toInt = tci) (ht0 : 0 ≤ tci ∧ tci ≤ 12) (hsp : ∀ j : Nat, (j : Int) < tci → 0 ≤ (fsp j).toInt ∧ (fsp j).toInt < 6) (hg : ∀ j : Nat, (j : Int) < tci → 0 ≤ (fgi j).toInt ∧ (fgi j).toInt ≤ 1000000) : Ct l G yX10_which cX10_which 1 (some .int) { frames := 4, cells := 0, slots := 0, locals := 95 } [.ref x] [(x, ob 10 [.ref told, x_reader, x_ring, .ref speeds, x_wheel, .ref trials, .ref span, x_search, x_kept, .ref crosses, x_trueMasses, .ref thought, x_up, x_low, x_fits, x_pulls]), (told, ob 8 [.ref tn, .int tl]), (tn, aJ G 16 fn), (speeds, ob 7 [.int sc, .ref sf, .ref so, sX0, sX1, sX2]), (sf, aI G 6 ff), (so, aI G 6 fo), (crosses, aI G 4 cr), (thought, aI G 8 ft), (trials, ob 9 [.int tc, .ref tsp, .ref twh, .ref tfi, .ref tse, .ref tgi, .ref tle, .ref tsc, .ref tbx, .ref tby]), (tsp, aI G 12 fsp), (twh, aZ G 12 fwh), (tfi, aI G 12 ffi), (tse, aI G 12 fse), (tgi, aI G 12 fgi), (tle, aI G 48 fle), (tsc, aI G 12 fsc), (tbx, aI G 12 fbx), (tby, aI G 12 fby), (span, ob 1 [.int ec, .int e1, .int e2, .int e3, .int e4, .int e5, .int e6, .ref ex, .ref ey]), (ex, aI G 40 fex), (ey, aI G 40 fey)] (fun r _ => ∃ (rz : Int32), (rz.toInt = ct (fun k => fa (AGx ff fo cr ft (tr6 fsp fwh ffi fse fgi fle) (PX k) (PY k)) tci.toNat 0 = -2) 14641) ∧ r = some (.int rz)) := by
  refine ct_of [(0, .ref x)] (by decide) (Nat.le_of_ble_eq_true rfl) rfl ?_
  intro p0 e0 s0 m0 args0 below0 meth0 c0 A X
  refine z_run X by_X10_which_0_1 ky_X10_which_0_1 (lv' := [(0, .ref x)]) (st' := [.ref x]) rfl ?_
  refine z_callV X k_10_216 (cy_X10_gatherSpanG l G x (.ref told) x_reader x_ring speeds x_wheel trials span x_search x_kept crosses x_trueMasses thought x_up x_low x_fits x_pulls sc sf so sX0 sX1 sX2 ff fo cr ft tc tsp twh tfi tse tgi tle tsc tbx tby fsp fwh ffi fse fgi fle fsc fbx fby ec e1 e2 e3 e4 e5 e6 ex ey fex fey tci htc (by omega) hsp hg) dy_X10_which_1 0 rfl rfl rfl ⟨Nat.le_of_ble_eq_true rfl, Nat.le_of_ble_eq_true rfl⟩ ⟨Nat.le_of_ble_eq_true rfl, Nat.le_of_ble_eq_true rfl⟩ rfl (rest := []) (As := []) rfl (Nat.le_of_ble_eq_true rfl) [0, 3, 4, 5, 6, 7, 8, 9, 10, 11, 12, 13, 14, 15, 16, 17, 18, 19, 20] [1, 2] rfl (by decide) (wr := [(told, ob 8 [.ref tn, .int tl]), (tn, aJ G 16 fn)]) rfl (by decide) (by decide) ?_
  rintro _ _ ⟨ec2_1, fsc2_2, fbx2_3, fby2_4, e12_5, e22_6, e32_7, e42_8, e52_9, e62_10, fex2_11, fey2_12, f1_13, rfl, rfl⟩
  refine Z.at (pc' := 4) (st' := []) (ws' := [(told, ob 8 [.ref tn, .int tl]), (tn, aJ G 16 fn), (x, ob 10 [.ref told, x_reader, x_ring, .ref speeds, x_wheel, .ref trials, .ref span, x_search, x_kept, .ref crosses, x_trueMasses, .ref thought, x_up, x_low, x_fits, x_pulls]), (speeds, ob 7 [.int sc, .ref sf, .ref so, sX0, sX1, sX2]), (sf, aI G 6 ff), (so, aI G 6 fo), (crosses, aI G 4 cr), (thought, aI G 8 ft), (trials, ob 9 [.int tc, .ref tsp, .ref twh, .ref tfi, .ref tse, .ref tgi, .ref tle, .ref tsc, .ref tbx, .ref tby]), (tsp, aI G 12 fsp), (twh, aZ G 12 fwh), (tfi, aI G 12 ffi), (tse, aI G 12 fse), (tgi, aI G 12 fgi), (tle, aI G 48 fle), (tsc, aI G 12 fsc2_2), (tbx, aI G 12 fbx2_3), (tby, aI G 12 fby2_4), (span, ob 1 [.int ec2_1, .int e12_5, .int e22_6, .int e32_7, .int e42_8, .int e52_9, .int e62_10, .ref ex, .ref ey]), (ex, aI G 40 fex2_11), (ey, aI G 40 fey2_12)]) (kc' := 0) (ks' := 0) rfl rfl rfl rfl rfl ?_
  refine z_run X by_X10_which_4_5 ky_X10_which_4_5 (lv' := [(0, .ref x)]) (st' := [.ref x]) rfl ?_
  refine z_get X fl_10_12 dy_X10_which_5 2 rfl (v := .ref told) rfl ?_
  refine z_callV X k_10_180 (cy_X8_startG l G told tn tl fn) dy_X10_which_8 0 rfl rfl rfl ⟨Nat.le_of_ble_eq_true rfl, Nat.le_of_ble_eq_true rfl⟩ ⟨Nat.le_of_ble_eq_true rfl, Nat.le_of_ble_eq_true rfl⟩ rfl (rest := []) (As := []) rfl (Nat.le_of_ble_eq_true rfl) [0, 1] [2, 3, 4, 5, 6, 7, 8, 9, 10, 11, 12, 13, 14, 15, 16, 17, 18, 19, 20] rfl (by decide) (wr := [(x, ob 10 [.ref told, x_reader, x_ring, .ref speeds, x_wheel, .ref trials, .ref span, x_search, x_kept, .ref crosses, x_trueMasses, .ref thought, x_up, x_low, x_fits, x_pulls]), (speeds, ob 7 [.int sc, .ref sf, .ref so, sX0, sX1, sX2]), (sf, aI G 6 ff), (so, aI G 6 fo), (crosses, aI G 4 cr), (thought, aI G 8 ft), (trials, ob 9 [.int tc, .ref tsp, .ref twh, .ref tfi, .ref tse, .ref tgi, .ref tle, .ref tsc, .ref tbx, .ref tby]), (tsp, aI G 12 fsp), (twh, aZ G 12 fwh), (tfi, aI G 12 ffi), (tse, aI G 12 fse), (tgi, aI G 12 fgi), (tle, aI G 48 fle), (tsc, aI G 12 fsc2_2), (tbx, aI G 12 fbx2_3), (tby, aI G 12 fby2_4), (span, ob 1 [.int ec2_1, .int e12_5, .int e22_6, .int e32_7, .int e42_8, .int e52_9, .int e62_10, .ref ex, .ref ey]), (ex, aI G 40 fex2_11), (ey, aI G 40 fey2_12)]) rfl (by decide) (by decide) ?_
  rintro _ _ ⟨rfl, rfl⟩
  refine Z.at (pc' := 11) (st' := []) (ws' := [(x, ob 10 [.ref told, x_reader, x_ring, .ref speeds, x_wheel, .ref trials, .ref span, x_search, x_kept, .ref crosses, x_trueMasses, .ref thought, x_up, x_low, x_fits, x_pulls]), (speeds, ob 7 [.int sc, .ref sf, .ref so, sX0, sX1, sX2]), (sf, aI G 6 ff), (so, aI G 6 fo), (crosses, aI G 4 cr), (thought, aI G 8 ft), (trials, ob 9 [.int tc, .ref tsp, .ref twh, .ref tfi, .ref tse, .ref tgi, .ref tle, .ref tsc, .ref tbx, .ref tby]), (tsp, aI G 12 fsp), (twh, aZ G 12 fwh), (tfi, aI G 12 ffi), (tse, aI G 12 fse), (tgi, aI G 12 fgi), (tle, aI G 48 fle), (tsc, aI G 12 fsc2_2), (tbx, aI G 12 fbx2_3), (tby, aI G 12 fby2_4), (span, ob 1 [.int ec2_1, .int e12_5, .int e22_6, .int e32_7, .int e42_8, .int e52_9, .int e62_10, .ref ex, .ref ey]), (ex, aI G 40 fex2_11), (ey, aI G 40 fey2_12), (told, ob 8 [.ref tn, .int 0]), (tn, aJ G 16 fn)]) (kc' := 0) (ks' := 0) rfl rfl rfl rfl rfl ?_
  refine z_run X by_X10_which_11_12 ky_X10_which_11_12 (lv' := [(0, .ref x)]) (st' := [.ref x]) rfl ?_
  refine z_get X fl_10_54 dy_X10_which_12 0 rfl (v := .ref span) rfl ?_
  refine z_getN X fl_10_219 dy_X10_which_15 16 rfl (v := .int ec2_1) rfl ?_
  refine zi_le X dy_X10_which_18 (tgt := 81) (by decide) (a := ec2_1.toInt) rfl (fun c18_14 => ?_) (fun c18_14 => ?_)
  ·
    refine z_run X by_X10_which_81_82 ky_X10_which_81_82 (lv' := [(0, .ref x)]) (st' := [.ref x]) rfl ?_
    refine z_get X fl_10_54 dy_X10_which_82 0 rfl (v := .ref span) rfl ?_
    refine z_getN X fl_10_219 dy_X10_which_85 16 rfl (v := .int ec2_1) rfl ?_
    exact z_iret X rfl dy_X10_which_88 (Nat.le_of_ble_eq_true rfl) (Nat.le_of_ble_eq_true rfl) ⟨ec2_1, f1_13, rfl⟩
  ·
    refine z_run X by_X10_which_21_22 ky_X10_which_21_22 (lv' := [(0, .ref x)]) (st' := [.ref x]) rfl ?_
    refine z_get X fl_10_12 dy_X10_which_22 0 rfl (v := .ref told) rfl ?_
    refine z_run X by_X10_which_25_26 ky_X10_which_25_26 (lv' := [(0, .ref x)]) (st' := [.ref x, .ref told]) rfl ?_
    refine z_get X fl_10_54 dy_X10_which_26 0 rfl (v := .ref span) rfl ?_
    refine z_getN X fl_10_220 dy_X10_which_29 16 rfl (v := .int e12_5) rfl ?_
    refine z_run X by_X10_which_32_33 ky_X10_which_32_33 (lv' := [(0, .ref x)]) (st' := [.long e12_5.toInt64, .ref told]) rfl ?_
    refine z_callV X k_10_183 (cy_X8_addG l G told tn 0 fn e12_5.toInt64 0 (show (0 : Int32).toInt = 0 from by decide) (by omega)) dy_X10_which_33 19 rfl rfl rfl ⟨Nat.le_of_ble_eq_true rfl, Nat.le_of_ble_eq_true rfl⟩ ⟨Nat.le_of_ble_eq_true rfl, Nat.le_of_ble_eq_true rfl⟩ rfl (rest := []) (As := [.long e12_5.toInt64]) rfl (Nat.le_of_ble_eq_true rfl) [19, 20] [0, 1, 2, 3, 4, 5, 6, 7, 8, 9, 10, 11, 12, 13, 14, 15, 16, 17, 18] rfl (by decide) (wr := [(x, ob 10 [.ref told, x_reader, x_ring, .ref speeds, x_wheel, .ref trials, .ref span, x_search, x_kept, .ref crosses, x_trueMasses, .ref thought, x_up, x_low, x_fits, x_pulls]), (speeds, ob 7 [.int sc, .ref sf, .ref so, sX0, sX1, sX2]), (sf, aI G 6 ff), (so, aI G 6 fo), (crosses, aI G 4 cr), (thought, aI G 8 ft), (trials, ob 9 [.int tc, .ref tsp, .ref twh, .ref tfi, .ref tse, .ref tgi, .ref tle, .ref tsc, .ref tbx, .ref tby]), (tsp, aI G 12 fsp), (twh, aZ G 12 fwh), (tfi, aI G 12 ffi), (tse, aI G 12 fse), (tgi, aI G 12 fgi), (tle, aI G 48 fle), (tsc, aI G 12 fsc2_2), (tbx, aI G 12 fbx2_3), (tby, aI G 12 fby2_4), (span, ob 1 [.int ec2_1, .int e12_5, .int e22_6, .int e32_7, .int e42_8, .int e52_9, .int e62_10, .ref ex, .ref ey]), (ex, aI G 40 fex2_11), (ey, aI G 40 fey2_12)]) rfl (by decide) (by decide) ?_
    rintro _ _ ⟨tl2_15, fn2_16, f33_17, rfl, rfl⟩
    refine Z.at (pc' := 36) (st' := []) (ws' := [(x, ob 10 [.ref told, x_reader, x_ring, .ref speeds, x_wheel, .ref trials, .ref span, x_search, x_kept, .ref crosses, x_trueMasses, .ref thought, x_up, x_low, x_fits, x_pulls]), (speeds, ob 7 [.int sc, .ref sf, .ref so, sX0, sX1, sX2]), (sf, aI G 6 ff), (so, aI G 6 fo), (crosses, aI G 4 cr), (thought, aI G 8 ft), (trials, ob 9 [.int tc, .ref tsp, .ref twh, .ref tfi, .ref tse, .ref tgi, .ref tle, .ref tsc, .ref tbx, .ref tby]), (tsp, aI G 12 fsp), (twh, aZ G 12 fwh), (tfi, aI G 12 ffi), (tse, aI G 12 fse), (tgi, aI G 12 fgi), (tle, aI G 48 fle), (tsc, aI G 12 fsc2_2), (tbx, aI G 12 fbx2_3), (tby, aI G 12 fby2_4), (span, ob 1 [.int ec2_1, .int e12_5, .int e22_6, .int e32_7, .int e42_8, .int e52_9, .int e62_10, .ref ex, .ref ey]), (ex, aI G 40 fex2_11), (ey, aI G 40 fey2_12), (told, ob 8 [.ref tn, .int tl2_15]), (tn, aJ G 16 fn2_16)]) (kc' := 0) (ks' := 0) rfl rfl rfl rfl rfl ?_
    refine z_run X by_X10_which_36_37 ky_X10_which_36_37 (lv' := [(0, .ref x)]) (st' := [.ref x]) rfl ?_
    refine z_get X fl_10_12 dy_X10_which_37 0 rfl (v := .ref told) rfl ?_
    refine z_run X by_X10_which_40_41 ky_X10_which_40_41 (lv' := [(0, .ref x)]) (st' := [.ref x, .ref told]) rfl ?_
    refine z_get X fl_10_54 dy_X10_which_41 0 rfl (v := .ref span) rfl ?_
    refine z_getN X fl_10_223 dy_X10_which_44 16 rfl (v := .int e22_6) rfl ?_
    refine z_run X by_X10_which_47_48 ky_X10_which_47_48 (lv' := [(0, .ref x)]) (st' := [.long e22_6.toInt64, .ref told]) rfl ?_
    refine z_callV X k_10_183 (cy_X8_addG l G told tn tl2_15 fn2_16 e22_6.toInt64 tl2_15.toInt rfl (by omega)) dy_X10_which_48 19 rfl rfl rfl ⟨Nat.le_of_ble_eq_true rfl, Nat.le_of_ble_eq_true rfl⟩ ⟨Nat.le_of_ble_eq_true rfl, Nat.le_of_ble_eq_true rfl⟩ rfl (rest := []) (As := [.long e22_6.toInt64]) rfl (Nat.le_of_ble_eq_true rfl) [19, 20] [0, 1, 2, 3, 4, 5, 6, 7, 8, 9, 10, 11, 12, 13, 14, 15, 16, 17, 18] rfl (by decide) (wr := [(x, ob 10 [.ref told, x_reader, x_ring, .ref speeds, x_wheel, .ref trials, .ref span, x_search, x_kept, .ref crosses, x_trueMasses, .ref thought, x_up, x_low, x_fits, x_pulls]), (speeds, ob 7 [.int sc, .ref sf, .ref so, sX0, sX1, sX2]), (sf, aI G 6 ff), (so, aI G 6 fo), (crosses, aI G 4 cr), (thought, aI G 8 ft), (trials, ob 9 [.int tc, .ref tsp, .ref twh, .ref tfi, .ref tse, .ref tgi, .ref tle, .ref tsc, .ref tbx, .ref tby]), (tsp, aI G 12 fsp), (twh, aZ G 12 fwh), (tfi, aI G 12 ffi), (tse, aI G 12 fse), (tgi, aI G 12 fgi), (tle, aI G 48 fle), (tsc, aI G 12 fsc2_2), (tbx, aI G 12 fbx2_3), (tby, aI G 12 fby2_4), (span, ob 1 [.int ec2_1, .int e12_5, .int e22_6, .int e32_7, .int e42_8, .int e52_9, .int e62_10, .ref ex, .ref ey]), (ex, aI G 40 fex2_11), (ey, aI G 40 fey2_12)]) rfl (by decide) (by decide) ?_
    rintro _ _ ⟨tl2_18, fn2_19, f48_20, rfl, rfl⟩
    refine Z.at (pc' := 51) (st' := []) (ws' := [(x, ob 10 [.ref told, x_reader, x_ring, .ref speeds, x_wheel, .ref trials, .ref span, x_search, x_kept, .ref crosses, x_trueMasses, .ref thought, x_up, x_low, x_fits, x_pulls]), (speeds, ob 7 [.int sc, .ref sf, .ref so, sX0, sX1, sX2]), (sf, aI G 6 ff), (so, aI G 6 fo), (crosses, aI G 4 cr), (thought, aI G 8 ft), (trials, ob 9 [.int tc, .ref tsp, .ref twh, .ref tfi, .ref tse, .ref tgi, .ref tle, .ref tsc, .ref tbx, .ref tby]), (tsp, aI G 12 fsp), (twh, aZ G 12 fwh), (tfi, aI G 12 ffi), (tse, aI G 12 fse), (tgi, aI G 12 fgi), (tle, aI G 48 fle), (tsc, aI G 12 fsc2_2), (tbx, aI G 12 fbx2_3), (tby, aI G 12 fby2_4), (span, ob 1 [.int ec2_1, .int e12_5, .int e22_6, .int e32_7, .int e42_8, .int e52_9, .int e62_10, .ref ex, .ref ey]), (ex, aI G 40 fex2_11), (ey, aI G 40 fey2_12), (told, ob 8 [.ref tn, .int tl2_18]), (tn, aJ G 16 fn2_19)]) (kc' := 0) (ks' := 0) rfl rfl rfl rfl rfl ?_
    refine z_run X by_X10_which_51_52 ky_X10_which_51_52 (lv' := [(0, .ref x)]) (st' := [.ref x]) rfl ?_
    refine z_get X fl_10_12 dy_X10_which_52 0 rfl (v := .ref told) rfl ?_
    refine z_run X by_X10_which_55_56 ky_X10_which_55_56 (lv' := [(0, .ref x)]) (st' := [.ref x, .ref told]) rfl ?_
    refine z_get X fl_10_54 dy_X10_which_56 0 rfl (v := .ref span) rfl ?_
    refine z_getN X fl_10_226 dy_X10_which_59 16 rfl (v := .int e32_7) rfl ?_
    refine z_run X by_X10_which_62_63 ky_X10_which_62_63 (lv' := [(0, .ref x)]) (st' := [.long e32_7.toInt64, .ref told]) rfl ?_
    refine z_callV X k_10_183 (cy_X8_addG l G told tn tl2_18 fn2_19 e32_7.toInt64 tl2_18.toInt rfl (by omega)) dy_X10_which_63 19 rfl rfl rfl ⟨Nat.le_of_ble_eq_true rfl, Nat.le_of_ble_eq_true rfl⟩ ⟨Nat.le_of_ble_eq_true rfl, Nat.le_of_ble_eq_true rfl⟩ rfl (rest := []) (As := [.long e32_7.toInt64]) rfl (Nat.le_of_ble_eq_true rfl) [19, 20] [0, 1, 2, 3, 4, 5, 6, 7, 8, 9, 10, 11, 12, 13, 14, 15, 16, 17, 18] rfl (by decide) (wr := [(x, ob 10 [.ref told, x_reader, x_ring, .ref speeds, x_wheel, .ref trials, .ref span, x_search, x_kept, .ref crosses, x_trueMasses, .ref thought, x_up, x_low, x_fits, x_pulls]), (speeds, ob 7 [.int sc, .ref sf, .ref so, sX0, sX1, sX2]), (sf, aI G 6 ff), (so, aI G 6 fo), (crosses, aI G 4 cr), (thought, aI G 8 ft), (trials, ob 9 [.int tc, .ref tsp, .ref twh, .ref tfi, .ref tse, .ref tgi, .ref tle, .ref tsc, .ref tbx, .ref tby]), (tsp, aI G 12 fsp), (twh, aZ G 12 fwh), (tfi, aI G 12 ffi), (tse, aI G 12 fse), (tgi, aI G 12 fgi), (tle, aI G 48 fle), (tsc, aI G 12 fsc2_2), (tbx, aI G 12 fbx2_3), (tby, aI G 12 fby2_4), (span, ob 1 [.int ec2_1, .int e12_5, .int e22_6, .int e32_7, .int e42_8, .int e52_9, .int e62_10, .ref ex, .ref ey]), (ex, aI G 40 fex2_11), (ey, aI G 40 fey2_12)]) rfl (by decide) (by decide) ?_
    rintro _ _ ⟨tl2_21, fn2_22, f63_23, rfl, rfl⟩
    refine Z.at (pc' := 66) (st' := []) (ws' := [(x, ob 10 [.ref told, x_reader, x_ring, .ref speeds, x_wheel, .ref trials, .ref span, x_search, x_kept, .ref crosses, x_trueMasses, .ref thought, x_up, x_low, x_fits, x_pulls]), (speeds, ob 7 [.int sc, .ref sf, .ref so, sX0, sX1, sX2]), (sf, aI G 6 ff), (so, aI G 6 fo), (crosses, aI G 4 cr), (thought, aI G 8 ft), (trials, ob 9 [.int tc, .ref tsp, .ref twh, .ref tfi, .ref tse, .ref tgi, .ref tle, .ref tsc, .ref tbx, .ref tby]), (tsp, aI G 12 fsp), (twh, aZ G 12 fwh), (tfi, aI G 12 ffi), (tse, aI G 12 fse), (tgi, aI G 12 fgi), (tle, aI G 48 fle), (tsc, aI G 12 fsc2_2), (tbx, aI G 12 fbx2_3), (tby, aI G 12 fby2_4), (span, ob 1 [.int ec2_1, .int e12_5, .int e22_6, .int e32_7, .int e42_8, .int e52_9, .int e62_10, .ref ex, .ref ey]), (ex, aI G 40 fex2_11), (ey, aI G 40 fey2_12), (told, ob 8 [.ref tn, .int tl2_21]), (tn, aJ G 16 fn2_22)]) (kc' := 0) (ks' := 0) rfl rfl rfl rfl rfl ?_
    refine z_run X by_X10_which_66_67 ky_X10_which_66_67 (lv' := [(0, .ref x)]) (st' := [.ref x]) rfl ?_
    refine z_get X fl_10_12 dy_X10_which_67 0 rfl (v := .ref told) rfl ?_
    refine z_run X by_X10_which_70_71 ky_X10_which_70_71 (lv' := [(0, .ref x)]) (st' := [.ref x, .ref told]) rfl ?_
    refine z_get X fl_10_54 dy_X10_which_71 0 rfl (v := .ref span) rfl ?_
    refine z_getN X fl_10_229 dy_X10_which_74 16 rfl (v := .int e42_8) rfl ?_
    refine z_run X by_X10_which_77_78 ky_X10_which_77_78 (lv' := [(0, .ref x)]) (st' := [.long e42_8.toInt64, .ref told]) rfl ?_
    refine z_callV X k_10_183 (cy_X8_addG l G told tn tl2_21 fn2_22 e42_8.toInt64 tl2_21.toInt rfl (by omega)) dy_X10_which_78 19 rfl rfl rfl ⟨Nat.le_of_ble_eq_true rfl, Nat.le_of_ble_eq_true rfl⟩ ⟨Nat.le_of_ble_eq_true rfl, Nat.le_of_ble_eq_true rfl⟩ rfl (rest := []) (As := [.long e42_8.toInt64]) rfl (Nat.le_of_ble_eq_true rfl) [19, 20] [0, 1, 2, 3, 4, 5, 6, 7, 8, 9, 10, 11, 12, 13, 14, 15, 16, 17, 18] rfl (by decide) (wr := [(x, ob 10 [.ref told, x_reader, x_ring, .ref speeds, x_wheel, .ref trials, .ref span, x_search, x_kept, .ref crosses, x_trueMasses, .ref thought, x_up, x_low, x_fits, x_pulls]), (speeds, ob 7 [.int sc, .ref sf, .ref so, sX0, sX1, sX2]), (sf, aI G 6 ff), (so, aI G 6 fo), (crosses, aI G 4 cr), (thought, aI G 8 ft), (trials, ob 9 [.int tc, .ref tsp, .ref twh, .ref tfi, .ref tse, .ref tgi, .ref tle, .ref tsc, .ref tbx, .ref tby]), (tsp, aI G 12 fsp), (twh, aZ G 12 fwh), (tfi, aI G 12 ffi), (tse, aI G 12 fse), (tgi, aI G 12 fgi), (tle, aI G 48 fle), (tsc, aI G 12 fsc2_2), (tbx, aI G 12 fbx2_3), (tby, aI G 12 fby2_4), (span, ob 1 [.int ec2_1, .int e12_5, .int e22_6, .int e32_7, .int e42_8, .int e52_9, .int e62_10, .ref ex, .ref ey]), (ex, aI G 40 fex2_11), (ey, aI G 40 fey2_12)]) rfl (by decide) (by decide) ?_
    rintro _ _ ⟨tl2_24, fn2_25, f78_26, rfl, rfl⟩
    refine Z.at (pc' := 81) (st' := []) (ws' := [(x, ob 10 [.ref told, x_reader, x_ring, .ref speeds, x_wheel, .ref trials, .ref span, x_search, x_kept, .ref crosses, x_trueMasses, .ref thought, x_up, x_low, x_fits, x_pulls]), (speeds, ob 7 [.int sc, .ref sf, .ref so, sX0, sX1, sX2]), (sf, aI G 6 ff), (so, aI G 6 fo), (crosses, aI G 4 cr), (thought, aI G 8 ft), (trials, ob 9 [.int tc, .ref tsp, .ref twh, .ref tfi, .ref tse, .ref tgi, .ref tle, .ref tsc, .ref tbx, .ref tby]), (tsp, aI G 12 fsp), (twh, aZ G 12 fwh), (tfi, aI G 12 ffi), (tse, aI G 12 fse), (tgi, aI G 12 fgi), (tle, aI G 48 fle), (tsc, aI G 12 fsc2_2), (tbx, aI G 12 fbx2_3), (tby, aI G 12 fby2_4), (span, ob 1 [.int ec2_1, .int e12_5, .int e22_6, .int e32_7, .int e42_8, .int e52_9, .int e62_10, .ref ex, .ref ey]), (ex, aI G 40 fex2_11), (ey, aI G 40 fey2_12), (told, ob 8 [.ref tn, .int tl2_24]), (tn, aJ G 16 fn2_25)]) (kc' := 0) (ks' := 0) rfl rfl rfl rfl rfl ?_
    refine z_run X by_X10_which_81_82 ky_X10_which_81_82 (lv' := [(0, .ref x)]) (st' := [.ref x]) rfl ?_
    refine z_get X fl_10_54 dy_X10_which_82 0 rfl (v := .ref span) rfl ?_
    refine z_getN X fl_10_219 dy_X10_which_85 16 rfl (v := .int ec2_1) rfl ?_
    exact z_iret X rfl dy_X10_which_88 (Nat.le_of_ble_eq_true rfl) (Nat.le_of_ble_eq_true rfl) ⟨ec2_1, f1_13, rfl⟩

theorem dy_X1_widest_1 : decode cX1_widest 1 = .ok (.getfield 18, 3) := by decide +kernel
theorem dy_X1_widest_6 : decode cX1_widest 6 = .ok (.if_icmp .le 7, 3) := by decide +kernel
theorem dy_X1_widest_19 : decode cX1_widest 19 = .ok (.getfield 18, 3) := by decide +kernel
theorem dy_X1_widest_22 : decode cX1_widest 22 = .ok (.if_icmp .ge 67, 3) := by decide +kernel
theorem dy_X1_widest_90 : decode cX1_widest 90 = .ok (.lreturn, 1) := by decide +kernel
theorem dy_X1_widest_33 : decode cX1_widest 33 = .ok (.getfield 18, 3) := by decide +kernel
theorem dy_X1_widest_36 : decode cX1_widest 36 = .ok (.if_icmp .ge 47, 3) := by decide +kernel
theorem dy_X1_widest_86 : decode cX1_widest 86 = .ok (.goto (-69), 3) := by decide +kernel
theorem dy_X1_widest_41 : decode cX1_widest 41 = .ok (.getfield 9, 3) := by decide +kernel
theorem dy_X1_widest_45 : decode cX1_widest 45 = .ok (.iaload, 1) := by decide +kernel
theorem dy_X1_widest_47 : decode cX1_widest 47 = .ok (.getfield 9, 3) := by decide +kernel
theorem dy_X1_widest_52 : decode cX1_widest 52 = .ok (.iaload, 1) := by decide +kernel
theorem dy_X1_widest_56 : decode cX1_widest 56 = .ok (.getfield 15, 3) := by decide +kernel
theorem dy_X1_widest_60 : decode cX1_widest 60 = .ok (.iaload, 1) := by decide +kernel
theorem dy_X1_widest_62 : decode cX1_widest 62 = .ok (.getfield 15, 3) := by decide +kernel
theorem dy_X1_widest_67 : decode cX1_widest 67 = .ok (.iaload, 1) := by decide +kernel
theorem dy_X1_widest_70 : decode cX1_widest 70 = .ok (.invokestatic 51, 3) := by decide +kernel
theorem dy_X1_widest_73 : decode cX1_widest 73 = .ok (.invokestatic 55, 3) := by decide +kernel
theorem dy_X1_widest_80 : decode cX1_widest 80 = .ok (.goto (-50), 3) := by decide +kernel
theorem dy_X1_widest_9 : decode cX1_widest 9 = .ok (.ldc2_w 49, 3) := by decide +kernel
theorem dy_X1_widest_12 : decode cX1_widest 12 = .ok (.lreturn, 1) := by decide +kernel
abbrev by_X1_widest_0_1 : ZB := [(.aload_n 0, .null)]
theorem ky_X1_widest_0_1 : zchk cX1_widest by_X1_widest_0_1 0 = true ∧ zpc by_X1_widest_0_1 0 = 1 := ⟨by decide +kernel, rfl⟩
abbrev by_X1_widest_4_6 : ZB := [(.bipush 40, .int 40)]
theorem ky_X1_widest_4_6 : zchk cX1_widest by_X1_widest_4_6 4 = true ∧ zpc by_X1_widest_4_6 4 = 6 := ⟨by decide +kernel, rfl⟩
abbrev by_X1_widest_13_17 : ZB := [(.lconst 0, .long 0), (.lstore_n 1, .null), (.iconst 0, .int 0), (.istore_n 3, .null)]
theorem ky_X1_widest_13_17 : zchk cX1_widest by_X1_widest_13_17 13 = true ∧ zpc by_X1_widest_13_17 13 = 17 := ⟨by decide +kernel, rfl⟩
abbrev by_X1_widest_17_19 : ZB := [(.iload_n 3, .null), (.aload_n 0, .null)]
theorem ky_X1_widest_17_19 : zchk cX1_widest by_X1_widest_17_19 17 = true ∧ zpc by_X1_widest_17_19 17 = 19 := ⟨by decide +kernel, rfl⟩
abbrev by_X1_widest_89_90 : ZB := [(.lload_n 1, .null)]
theorem ky_X1_widest_89_90 : zchk cX1_widest by_X1_widest_89_90 89 = true ∧ zpc by_X1_widest_89_90 89 = 90 := ⟨by decide +kernel, rfl⟩
abbrev by_X1_widest_25_30 : ZB := [(.iload_n 3, .null), (.iconst 1, .int 1), (.iadd, .null), (.istore 4, .null)]
theorem ky_X1_widest_25_30 : zchk cX1_widest by_X1_widest_25_30 25 = true ∧ zpc by_X1_widest_25_30 25 = 30 := ⟨by decide +kernel, rfl⟩
abbrev by_X1_widest_30_33 : ZB := [(.iload 4, .null), (.aload_n 0, .null)]
theorem ky_X1_widest_30_33 : zchk cX1_widest by_X1_widest_30_33 30 = true ∧ zpc by_X1_widest_30_33 30 = 33 := ⟨by decide +kernel, rfl⟩
abbrev by_X1_widest_83_86 : ZB := [(.iinc 3 1, .int 1)]
theorem ky_X1_widest_83_86 : zchk cX1_widest by_X1_widest_83_86 83 = true ∧ zpc by_X1_widest_83_86 83 = 86 := ⟨by decide +kernel, rfl⟩
abbrev by_X1_widest_39_41 : ZB := [(.lload_n 1, .null), (.aload_n 0, .null)]
theorem ky_X1_widest_39_41 : zchk cX1_widest by_X1_widest_39_41 39 = true ∧ zpc by_X1_widest_39_41 39 = 41 := ⟨by decide +kernel, rfl⟩
abbrev by_X1_widest_44_45 : ZB := [(.iload_n 3, .null)]
theorem ky_X1_widest_44_45 : zchk cX1_widest by_X1_widest_44_45 44 = true ∧ zpc by_X1_widest_44_45 44 = 45 := ⟨by decide +kernel, rfl⟩
abbrev by_X1_widest_46_47 : ZB := [(.aload_n 0, .null)]
theorem ky_X1_widest_46_47 : zchk cX1_widest by_X1_widest_46_47 46 = true ∧ zpc by_X1_widest_46_47 46 = 47 := ⟨by decide +kernel, rfl⟩
abbrev by_X1_widest_50_52 : ZB := [(.iload 4, .null)]
theorem ky_X1_widest_50_52 : zchk cX1_widest by_X1_widest_50_52 50 = true ∧ zpc by_X1_widest_50_52 50 = 52 := ⟨by decide +kernel, rfl⟩
abbrev by_X1_widest_53_56 : ZB := [(.isub, .null), (.i2l, .null), (.aload_n 0, .null)]
theorem ky_X1_widest_53_56 : zchk cX1_widest by_X1_widest_53_56 53 = true ∧ zpc by_X1_widest_53_56 53 = 56 := ⟨by decide +kernel, rfl⟩
abbrev by_X1_widest_59_60 : ZB := [(.iload_n 3, .null)]
theorem ky_X1_widest_59_60 : zchk cX1_widest by_X1_widest_59_60 59 = true ∧ zpc by_X1_widest_59_60 59 = 60 := ⟨by decide +kernel, rfl⟩
abbrev by_X1_widest_61_62 : ZB := [(.aload_n 0, .null)]
theorem ky_X1_widest_61_62 : zchk cX1_widest by_X1_widest_61_62 61 = true ∧ zpc by_X1_widest_61_62 61 = 62 := ⟨by decide +kernel, rfl⟩
abbrev by_X1_widest_65_67 : ZB := [(.iload 4, .null)]
theorem ky_X1_widest_65_67 : zchk cX1_widest by_X1_widest_65_67 65 = true ∧ zpc by_X1_widest_65_67 65 = 67 := ⟨by decide +kernel, rfl⟩
abbrev by_X1_widest_68_70 : ZB := [(.isub, .null), (.i2l, .null)]
theorem ky_X1_widest_68_70 : zchk cX1_widest by_X1_widest_68_70 68 = true ∧ zpc by_X1_widest_68_70 68 = 70 := ⟨by decide +kernel, rfl⟩
abbrev by_X1_widest_76_80 : ZB := [(.lstore_n 1, .null), (.iinc 4 1, .int 1)]
theorem ky_X1_widest_76_80 : zchk cX1_widest by_X1_widest_76_80 76 = true ∧ zpc by_X1_widest_76_80 76 = 80 := ⟨by decide +kernel, rfl⟩
set_option maxHeartbeats 4000000 in
set_option maxRecDepth 100000 in
theorem cy_X1_widestG (l : Launch) (G : KG) (span : Nat) (ec : Int32) (e1 : Int32) (e2 : Int32) (e3 : Int32) (e4 : Int32) (e5 : Int32) (e6 : Int32) (ex : Nat) (ey : Nat) (fex : Nat → Int32) (fey : Nat → Int32) (eci : Int) (hec : ec.toInt = eci) (he : 0 ≤ eci) : Ct l G yX1_widest cX1_widest 5 (some .long) { frames := 1, cells := 0, slots := 0, locals := 23 } [.ref span] [(span, ob 1 [.int ec, .int e1, .int e2, .int e3, .int e4, .int e5, .int e6, .ref ex, .ref ey]), (ex, aI G 40 fex), (ey, aI G 40 fey)] (fun r w1 => ∃ (rz : Int64), r = some (.long rz) ∧ w1 = [(span, ob 1 [.int ec, .int e1, .int e2, .int e3, .int e4, .int e5, .int e6, .ref ex, .ref ey]), (ex, aI G 40 fex), (ey, aI G 40 fey)]) := by
  refine ct_of [(0, .ref span)] (by decide) (Nat.le_of_ble_eq_true rfl) rfl ?_
  intro p0 e0 s0 m0 args0 below0 meth0 c0 A X
  refine z_run X by_X1_widest_0_1 ky_X1_widest_0_1 (lv' := [(0, .ref span)]) (st' := [.ref span]) rfl ?_
  refine z_get X fl_1_18 dy_X1_widest_1 0 rfl (v := .int ec) rfl ?_
  refine z_run X by_X1_widest_4_6 ky_X1_widest_4_6 (lv' := [(0, .ref span)]) (st' := [.int 40, .int ec]) rfl ?_
  refine zc_le X dy_X1_widest_6 (tgt := 13) (by decide) (a := eci) (b := 40) hec (show (40 : Int32).toInt = 40 from by decide) (fun c6_1 => ?_) (fun c6_1 => ?_)
  ·
    refine z_run X by_X1_widest_13_17 ky_X1_widest_13_17 (lv' := [(3, .int 0), (1, .long 0), (0, .ref span)]) (st' := []) rfl ?_
    refine zloop (σ := Int32 × Int64) (fun z => [(3, .int z.1), (1, .long z.2), (0, .ref span)]) (fun z => []) (fun z => [(span, ob 1 [.int ec, .int e1, .int e2, .int e3, .int e4, .int e5, .int e6, .ref ex, .ref ey]), (ex, aI G 40 fex), (ey, aI G 40 fey)]) (fun z => (0 ≤ z.1.toInt ∧ z.1.toInt ≤ eci)) (fun z => (eci - z.1.toInt).toNat) (0, 0) ?_ ?_
    ·
      rintro ⟨i_, m_⟩ hi ih17
      dsimp only at *
      refine z_run X by_X1_widest_17_19 ky_X1_widest_17_19 (lv' := [(3, .int i_), (1, .long m_), (0, .ref span)]) (st' := [.ref span, .int i_]) rfl ?_
      refine z_get X fl_1_18 dy_X1_widest_19 0 rfl (v := .int ec) rfl ?_
      refine zc_ge X dy_X1_widest_22 (tgt := 89) (by decide) (a := i_.toInt) (b := eci) rfl hec (fun c22_2 => ?_) (fun c22_2 => ?_)
      ·
        refine z_run X by_X1_widest_89_90 ky_X1_widest_89_90 (lv' := [(3, .int i_), (1, .long m_), (0, .ref span)]) (st' := [.long m_]) rfl ?_
        exact z_lret X rfl dy_X1_widest_90 (Nat.le_of_ble_eq_true rfl) (Nat.le_of_ble_eq_true rfl) ⟨m_, rfl, rfl⟩
      ·
        refine z_run X by_X1_widest_25_30 ky_X1_widest_25_30 (lv' := [(4, .int (i_ + 1)), (3, .int i_), (1, .long m_), (0, .ref span)]) (st' := []) rfl ?_
        refine zloop (σ := Int32 × Int64) (fun z => [(4, .int z.1), (3, .int i_), (1, .long z.2), (0, .ref span)]) (fun z => []) (fun z => [(span, ob 1 [.int ec, .int e1, .int e2, .int e3, .int e4, .int e5, .int e6, .ref ex, .ref ey]), (ex, aI G 40 fex), (ey, aI G 40 fey)]) (fun z => (1 ≤ z.1.toInt ∧ z.1.toInt ≤ eci)) (fun z => (eci - z.1.toInt).toNat) ((i_ + 1), m_) ?_ ?_
        ·
          rintro ⟨j_, n_⟩ hj ih30
          dsimp only at *
          refine z_run X by_X1_widest_30_33 ky_X1_widest_30_33 (lv' := [(4, .int j_), (3, .int i_), (1, .long n_), (0, .ref span)]) (st' := [.ref span, .int j_]) rfl ?_
          refine z_get X fl_1_18 dy_X1_widest_33 0 rfl (v := .int ec) rfl ?_
          refine zc_ge X dy_X1_widest_36 (tgt := 83) (by decide) (a := j_.toInt) (b := eci) rfl hec (fun c36_3 => ?_) (fun c36_3 => ?_)
          ·
            refine z_run X by_X1_widest_83_86 ky_X1_widest_83_86 (lv' := [(3, .int (i_ + 1)), (4, .int j_), (1, .long n_), (0, .ref span)]) (st' := []) rfl ?_
            refine z_goto X dy_X1_widest_86 (tgt := 17) (by decide) ?_
            refine Z.sub (lv' := [(3, .int (i_ + 1)), (1, .long n_), (0, .ref span)]) [0, 2, 3] rfl [0, 1, 2] (ws' := [(span, ob 1 [.int ec, .int e1, .int e2, .int e3, .int e4, .int e5, .int e6, .ref ex, .ref ey]), (ex, aI G 40 fex), (ey, aI G 40 fey)]) rfl (by decide) ?_
            exact ih17 ((i_ + 1), n_) (by (try dsimp only); have e : (i_ + 1).toInt = i_.toInt + 1 := tI_add rfl (show (1 : Int32).toInt = 1 from by decide) (by omega); omega) (by (try dsimp only); have e : (i_ + 1).toInt = i_.toInt + 1 := tI_add rfl (show (1 : Int32).toInt = 1 from by decide) (by omega); omega)
          ·
            refine z_run X by_X1_widest_39_41 ky_X1_widest_39_41 (lv' := [(4, .int j_), (3, .int i_), (1, .long n_), (0, .ref span)]) (st' := [.ref span, .long n_]) rfl ?_
            refine z_get X fl_1_9 dy_X1_widest_41 0 rfl (v := .ref ex) rfl ?_
            refine z_run X by_X1_widest_44_45 ky_X1_widest_44_45 (lv' := [(4, .int j_), (3, .int i_), (1, .long n_), (0, .ref span)]) (st' := [.int i_, .ref ex, .long n_]) rfl ?_
            refine z_iald X dy_X1_widest_45 1 rfl (vin rfl (by omega) (by omega)) (v := (fex i_.toNatClampNeg)) rfl ?_
            refine z_run X by_X1_widest_46_47 ky_X1_widest_46_47 (lv' := [(4, .int j_), (3, .int i_), (1, .long n_), (0, .ref span)]) (st' := [.ref span, .int (fex i_.toNatClampNeg), .long n_]) rfl ?_
            refine z_get X fl_1_9 dy_X1_widest_47 0 rfl (v := .ref ex) rfl ?_
            refine z_run X by_X1_widest_50_52 ky_X1_widest_50_52 (lv' := [(4, .int j_), (3, .int i_), (1, .long n_), (0, .ref span)]) (st' := [.int j_, .ref ex, .int (fex i_.toNatClampNeg), .long n_]) rfl ?_
            refine z_iald X dy_X1_widest_52 1 rfl (vin rfl (by omega) (by omega)) (v := (fex j_.toNatClampNeg)) rfl ?_
            refine z_run X by_X1_widest_53_56 ky_X1_widest_53_56 (lv' := [(4, .int j_), (3, .int i_), (1, .long n_), (0, .ref span)]) (st' := [.ref span, .long ((fex i_.toNatClampNeg) - (fex j_.toNatClampNeg)).toInt64, .long n_]) rfl ?_
            refine z_get X fl_1_15 dy_X1_widest_56 0 rfl (v := .ref ey) rfl ?_
            refine z_run X by_X1_widest_59_60 ky_X1_widest_59_60 (lv' := [(4, .int j_), (3, .int i_), (1, .long n_), (0, .ref span)]) (st' := [.int i_, .ref ey, .long ((fex i_.toNatClampNeg) - (fex j_.toNatClampNeg)).toInt64, .long n_]) rfl ?_
            refine z_iald X dy_X1_widest_60 2 rfl (vin rfl (by omega) (by omega)) (v := (fey i_.toNatClampNeg)) rfl ?_
            refine z_run X by_X1_widest_61_62 ky_X1_widest_61_62 (lv' := [(4, .int j_), (3, .int i_), (1, .long n_), (0, .ref span)]) (st' := [.ref span, .int (fey i_.toNatClampNeg), .long ((fex i_.toNatClampNeg) - (fex j_.toNatClampNeg)).toInt64, .long n_]) rfl ?_
            refine z_get X fl_1_15 dy_X1_widest_62 0 rfl (v := .ref ey) rfl ?_
            refine z_run X by_X1_widest_65_67 ky_X1_widest_65_67 (lv' := [(4, .int j_), (3, .int i_), (1, .long n_), (0, .ref span)]) (st' := [.int j_, .ref ey, .int (fey i_.toNatClampNeg), .long ((fex i_.toNatClampNeg) - (fex j_.toNatClampNeg)).toInt64, .long n_]) rfl ?_
            refine z_iald X dy_X1_widest_67 2 rfl (vin rfl (by omega) (by omega)) (v := (fey j_.toNatClampNeg)) rfl ?_
            refine z_run X by_X1_widest_68_70 ky_X1_widest_68_70 (lv' := [(4, .int j_), (3, .int i_), (1, .long n_), (0, .ref span)]) (st' := [.long ((fey i_.toNatClampNeg) - (fey j_.toNatClampNeg)).toInt64, .long ((fex i_.toNatClampNeg) - (fex j_.toNatClampNeg)).toInt64, .long n_]) rfl ?_
            refine z_callSN X k_1_51 (cy_X10_sizeOfG l G ((fex i_.toNatClampNeg) - (fex j_.toNatClampNeg)).toInt64 ((fey i_.toNatClampNeg) - (fey j_.toNatClampNeg)).toInt64) dy_X1_widest_70 ⟨Nat.le_of_ble_eq_true rfl, Nat.le_of_ble_eq_true rfl⟩ ⟨Nat.le_of_ble_eq_true rfl, Nat.le_of_ble_eq_true rfl⟩ rfl (rest := [.long n_]) (As := [.long ((fex i_.toNatClampNeg) - (fex j_.toNatClampNeg)).toInt64, .long ((fey i_.toNatClampNeg) - (fey j_.toNatClampNeg)).toInt64]) rfl (Nat.le_of_ble_eq_true rfl) [] [0, 1, 2] rfl (by decide) (wr := [(span, ob 1 [.int ec, .int e1, .int e2, .int e3, .int e4, .int e5, .int e6, .ref ex, .ref ey]), (ex, aI G 40 fex), (ey, aI G 40 fey)]) rfl (by decide) (by decide) ?_
            rintro _ _ ⟨rz_4, f70_5, rfl, rfl⟩
            refine Z.at (pc' := 73) (st' := [.long rz_4, .long n_]) (ws' := [(span, ob 1 [.int ec, .int e1, .int e2, .int e3, .int e4, .int e5, .int e6, .ref ex, .ref ey]), (ex, aI G 40 fex), (ey, aI G 40 fey)]) (kc' := 0) (ks' := 0) rfl rfl rfl rfl rfl ?_
            refine z_lmax2 X k_1_55.1 k_1_55.2.1 k_1_55.2.2.1 k_1_55.2.2.2.1 ⟨Nat.le_of_ble_eq_true rfl, Nat.le_of_ble_eq_true rfl⟩ ⟨Nat.le_of_ble_eq_true rfl, Nat.le_of_ble_eq_true rfl⟩ dy_X1_widest_73 (v := (if rz_4 < n_ then n_ else rz_4)) rfl ?_
            refine z_run X by_X1_widest_76_80 ky_X1_widest_76_80 (lv' := [(4, .int (j_ + 1)), (1, .long (if rz_4 < n_ then n_ else rz_4)), (3, .int i_), (0, .ref span)]) (st' := []) rfl ?_
            refine z_goto X dy_X1_widest_80 (tgt := 30) (by decide) ?_
            refine Z.sub (lv' := [(4, .int (j_ + 1)), (3, .int i_), (1, .long (if rz_4 < n_ then n_ else rz_4)), (0, .ref span)]) [0, 2, 1, 3] rfl [0, 1, 2] (ws' := [(span, ob 1 [.int ec, .int e1, .int e2, .int e3, .int e4, .int e5, .int e6, .ref ex, .ref ey]), (ex, aI G 40 fex), (ey, aI G 40 fey)]) rfl (by decide) ?_
            exact ih30 ((j_ + 1), (if rz_4 < n_ then n_ else rz_4)) (by (try dsimp only); have ej : (j_ + 1).toInt = j_.toInt + 1 := tI_add rfl (show (1 : Int32).toInt = 1 from by decide) (by omega); omega) (by (try dsimp only); have ej : (j_ + 1).toInt = j_.toInt + 1 := tI_add rfl (show (1 : Int32).toInt = 1 from by decide) (by omega); omega)
        · exact (by (try dsimp only); have e : (i_ + 1).toInt = i_.toInt + 1 := tI_add rfl (show (1 : Int32).toInt = 1 from by decide) (by omega); omega)
    · exact (by (try dsimp only); have e0 : (0 : Int32).toInt = 0 := (by decide); omega)
  ·
    refine z_ldc2 X dy_X1_widest_9 cn_1_49 ?_
    exact z_lret X rfl dy_X1_widest_12 (Nat.le_of_ble_eq_true rfl) (Nat.le_of_ble_eq_true rfl) ⟨((-1) : Int64), rfl, rfl⟩

theorem dy_X10_ends_1 : decode cX10_ends 1 = .ok (.invokevirtual 216, 3) := by decide +kernel
theorem dy_X10_ends_5 : decode cX10_ends 5 = .ok (.getfield 54, 3) := by decide +kernel
theorem dy_X10_ends_8 : decode cX10_ends 8 = .ok (.getfield 219, 3) := by decide +kernel
theorem dy_X10_ends_11 : decode cX10_ends 11 = .ok (.ifCond .ne 5, 3) := by decide +kernel
theorem dy_X10_ends_17 : decode cX10_ends 17 = .ok (.getfield 12, 3) := by decide +kernel
theorem dy_X10_ends_20 : decode cX10_ends 20 = .ok (.invokevirtual 180, 3) := by decide +kernel
theorem dy_X10_ends_24 : decode cX10_ends 24 = .ok (.getfield 12, 3) := by decide +kernel
theorem dy_X10_ends_28 : decode cX10_ends 28 = .ok (.getfield 54, 3) := by decide +kernel
theorem dy_X10_ends_31 : decode cX10_ends 31 = .ok (.getfield 220, 3) := by decide +kernel
theorem dy_X10_ends_35 : decode cX10_ends 35 = .ok (.invokevirtual 183, 3) := by decide +kernel
theorem dy_X10_ends_39 : decode cX10_ends 39 = .ok (.getfield 12, 3) := by decide +kernel
theorem dy_X10_ends_43 : decode cX10_ends 43 = .ok (.getfield 54, 3) := by decide +kernel
theorem dy_X10_ends_46 : decode cX10_ends 46 = .ok (.getfield 226, 3) := by decide +kernel
theorem dy_X10_ends_50 : decode cX10_ends 50 = .ok (.invokevirtual 183, 3) := by decide +kernel
theorem dy_X10_ends_54 : decode cX10_ends 54 = .ok (.getfield 12, 3) := by decide +kernel
theorem dy_X10_ends_58 : decode cX10_ends 58 = .ok (.getfield 54, 3) := by decide +kernel
theorem dy_X10_ends_61 : decode cX10_ends 61 = .ok (.getfield 232, 3) := by decide +kernel
theorem dy_X10_ends_65 : decode cX10_ends 65 = .ok (.invokevirtual 183, 3) := by decide +kernel
theorem dy_X10_ends_69 : decode cX10_ends 69 = .ok (.getfield 12, 3) := by decide +kernel
theorem dy_X10_ends_73 : decode cX10_ends 73 = .ok (.getfield 54, 3) := by decide +kernel
theorem dy_X10_ends_76 : decode cX10_ends 76 = .ok (.getfield 235, 3) := by decide +kernel
theorem dy_X10_ends_80 : decode cX10_ends 80 = .ok (.invokevirtual 183, 3) := by decide +kernel
theorem dy_X10_ends_84 : decode cX10_ends 84 = .ok (.getfield 12, 3) := by decide +kernel
theorem dy_X10_ends_88 : decode cX10_ends 88 = .ok (.getfield 54, 3) := by decide +kernel
theorem dy_X10_ends_91 : decode cX10_ends 91 = .ok (.invokevirtual 238, 3) := by decide +kernel
theorem dy_X10_ends_94 : decode cX10_ends 94 = .ok (.invokevirtual 183, 3) := by decide +kernel
theorem dy_X10_ends_98 : decode cX10_ends 98 = .ok (.getfield 54, 3) := by decide +kernel
theorem dy_X10_ends_101 : decode cX10_ends 101 = .ok (.getfield 219, 3) := by decide +kernel
theorem dy_X10_ends_104 : decode cX10_ends 104 = .ok (.ireturn, 1) := by decide +kernel
theorem dy_X10_ends_15 : decode cX10_ends 15 = .ok (.ireturn, 1) := by decide +kernel
abbrev by_X10_ends_0_1 : ZB := [(.aload_n 0, .null)]
theorem ky_X10_ends_0_1 : zchk cX10_ends by_X10_ends_0_1 0 = true ∧ zpc by_X10_ends_0_1 0 = 1 := ⟨by decide +kernel, rfl⟩
abbrev by_X10_ends_4_5 : ZB := [(.aload_n 0, .null)]
theorem ky_X10_ends_4_5 : zchk cX10_ends by_X10_ends_4_5 4 = true ∧ zpc by_X10_ends_4_5 4 = 5 := ⟨by decide +kernel, rfl⟩
abbrev by_X10_ends_16_17 : ZB := [(.aload_n 0, .null)]
theorem ky_X10_ends_16_17 : zchk cX10_ends by_X10_ends_16_17 16 = true ∧ zpc by_X10_ends_16_17 16 = 17 := ⟨by decide +kernel, rfl⟩
abbrev by_X10_ends_23_24 : ZB := [(.aload_n 0, .null)]
theorem ky_X10_ends_23_24 : zchk cX10_ends by_X10_ends_23_24 23 = true ∧ zpc by_X10_ends_23_24 23 = 24 := ⟨by decide +kernel, rfl⟩
abbrev by_X10_ends_27_28 : ZB := [(.aload_n 0, .null)]
theorem ky_X10_ends_27_28 : zchk cX10_ends by_X10_ends_27_28 27 = true ∧ zpc by_X10_ends_27_28 27 = 28 := ⟨by decide +kernel, rfl⟩
abbrev by_X10_ends_34_35 : ZB := [(.i2l, .null)]
theorem ky_X10_ends_34_35 : zchk cX10_ends by_X10_ends_34_35 34 = true ∧ zpc by_X10_ends_34_35 34 = 35 := ⟨by decide +kernel, rfl⟩
abbrev by_X10_ends_38_39 : ZB := [(.aload_n 0, .null)]
theorem ky_X10_ends_38_39 : zchk cX10_ends by_X10_ends_38_39 38 = true ∧ zpc by_X10_ends_38_39 38 = 39 := ⟨by decide +kernel, rfl⟩
abbrev by_X10_ends_42_43 : ZB := [(.aload_n 0, .null)]
theorem ky_X10_ends_42_43 : zchk cX10_ends by_X10_ends_42_43 42 = true ∧ zpc by_X10_ends_42_43 42 = 43 := ⟨by decide +kernel, rfl⟩
abbrev by_X10_ends_49_50 : ZB := [(.i2l, .null)]
theorem ky_X10_ends_49_50 : zchk cX10_ends by_X10_ends_49_50 49 = true ∧ zpc by_X10_ends_49_50 49 = 50 := ⟨by decide +kernel, rfl⟩
abbrev by_X10_ends_53_54 : ZB := [(.aload_n 0, .null)]
theorem ky_X10_ends_53_54 : zchk cX10_ends by_X10_ends_53_54 53 = true ∧ zpc by_X10_ends_53_54 53 = 54 := ⟨by decide +kernel, rfl⟩
abbrev by_X10_ends_57_58 : ZB := [(.aload_n 0, .null)]
theorem ky_X10_ends_57_58 : zchk cX10_ends by_X10_ends_57_58 57 = true ∧ zpc by_X10_ends_57_58 57 = 58 := ⟨by decide +kernel, rfl⟩
abbrev by_X10_ends_64_65 : ZB := [(.i2l, .null)]
theorem ky_X10_ends_64_65 : zchk cX10_ends by_X10_ends_64_65 64 = true ∧ zpc by_X10_ends_64_65 64 = 65 := ⟨by decide +kernel, rfl⟩
abbrev by_X10_ends_68_69 : ZB := [(.aload_n 0, .null)]
theorem ky_X10_ends_68_69 : zchk cX10_ends by_X10_ends_68_69 68 = true ∧ zpc by_X10_ends_68_69 68 = 69 := ⟨by decide +kernel, rfl⟩
abbrev by_X10_ends_72_73 : ZB := [(.aload_n 0, .null)]
theorem ky_X10_ends_72_73 : zchk cX10_ends by_X10_ends_72_73 72 = true ∧ zpc by_X10_ends_72_73 72 = 73 := ⟨by decide +kernel, rfl⟩
abbrev by_X10_ends_79_80 : ZB := [(.i2l, .null)]
theorem ky_X10_ends_79_80 : zchk cX10_ends by_X10_ends_79_80 79 = true ∧ zpc by_X10_ends_79_80 79 = 80 := ⟨by decide +kernel, rfl⟩
abbrev by_X10_ends_83_84 : ZB := [(.aload_n 0, .null)]
theorem ky_X10_ends_83_84 : zchk cX10_ends by_X10_ends_83_84 83 = true ∧ zpc by_X10_ends_83_84 83 = 84 := ⟨by decide +kernel, rfl⟩
abbrev by_X10_ends_87_88 : ZB := [(.aload_n 0, .null)]
theorem ky_X10_ends_87_88 : zchk cX10_ends by_X10_ends_87_88 87 = true ∧ zpc by_X10_ends_87_88 87 = 88 := ⟨by decide +kernel, rfl⟩
abbrev by_X10_ends_97_98 : ZB := [(.aload_n 0, .null)]
theorem ky_X10_ends_97_98 : zchk cX10_ends by_X10_ends_97_98 97 = true ∧ zpc by_X10_ends_97_98 97 = 98 := ⟨by decide +kernel, rfl⟩
abbrev by_X10_ends_14_15 : ZB := [(.iconst 0, .int 0)]
theorem ky_X10_ends_14_15 : zchk cX10_ends by_X10_ends_14_15 14 = true ∧ zpc by_X10_ends_14_15 14 = 15 := ⟨by decide +kernel, rfl⟩
set_option maxHeartbeats 4000000 in
set_option maxRecDepth 100000 in
theorem cy_X10_endsG (l : Launch) (G : KG) (x : Nat) (told : Nat) (x_reader : Value) (x_ring : Value) (speeds : Nat) (x_wheel : Value) (trials : Nat) (span : Nat) (x_search : Value) (x_kept : Value) (crosses : Nat) (x_trueMasses : Value) (thought : Nat) (x_up : Value) (x_low : Value) (x_fits : Value) (x_pulls : Value) (tn : Nat) (tl : Int32) (fn : Nat → Int64) (sc : Int32) (sf : Nat) (so : Nat) (sX0 : Value) (sX1 : Value) (sX2 : Value) (ff : Nat → Int32) (fo : Nat → Int32) (cr : Nat → Int32) (ft : Nat → Int32) (tc : Int32) (tsp : Nat) (twh : Nat) (tfi : Nat) (tse : Nat) (tgi : Nat) (tle : Nat) (tsc : Nat) (tbx : Nat) (tby : Nat) (fsp : Nat → Int32) (fwh : Nat → Int32) (ffi : Nat → Int32) (fse : Nat → Int32) (fgi : Nat → Int32) (fle : Nat → Int32) (fsc : Nat → Int32) (fbx : Nat → Int32) (fby : Nat → Int32) (ec : Int32) (e1 : Int32) (e2 : Int32) (e3 : Int32) (e4 : Int32) (e5 : Int32) (e6 : Int32) (ex : Nat) (ey : Nat) (fex : Nat → Int32) (fey : Nat → Int32) (tci : Int) (htc : tc.toInt = tci) (ht0 : 0 ≤ tci ∧ tci ≤ 12) (hsp : ∀ j : Nat, (j : Int) < tci → 0 ≤ (fsp j).toInt ∧ (fsp j).toInt < 6) (hg : ∀ j : Nat, (j : Int) < tci → 0 ≤ (fgi j).toInt ∧ (fgi j).toInt ≤ 1000000) : Ct l G yX10_ends cX10_ends 1 (some .int) { frames := 4, cells := 0, slots := 0, locals := 95 } [.ref x] [(x, ob 10 [.ref told, x_reader, x_ring, .ref speeds, x_wheel, .ref trials, .ref span, x_search, x_kept, .ref crosses, x_trueMasses, .ref thought, x_up, x_low, x_fits, x_pulls]), (told, ob 8 [.ref tn, .int tl]), (tn, aJ G 16 fn), (speeds, ob 7 [.int sc, .ref sf, .ref so, sX0, sX1, sX2]), (sf, aI G 6 ff), (so, aI G 6 fo), (crosses, aI G 4 cr), (thought, aI G 8 ft), (trials, ob 9 [.int tc, .ref tsp, .ref twh, .ref tfi, .ref tse, .ref tgi, .ref tle, .ref tsc, .ref tbx, .ref tby]), (tsp, aI G 12 fsp), (twh, aZ G 12 fwh), (tfi, aI G 12 ffi), (tse, aI G 12 fse), (tgi, aI G 12 fgi), (tle, aI G 48 fle), (tsc, aI G 12 fsc), (tbx, aI G 12 fbx), (tby, aI G 12 fby), (span, ob 1 [.int ec, .int e1, .int e2, .int e3, .int e4, .int e5, .int e6, .ref ex, .ref ey]), (ex, aI G 40 fex), (ey, aI G 40 fey)] (fun r _ => ∃ (rz : Int32), (rz.toInt = ct (fun k => fa (AGx ff fo cr ft (tr6 fsp fwh ffi fse fgi fle) (PX k) (PY k)) tci.toNat 0 = -2) 14641) ∧ r = some (.int rz)) := by
  refine ct_of [(0, .ref x)] (by decide) (Nat.le_of_ble_eq_true rfl) rfl ?_
  intro p0 e0 s0 m0 args0 below0 meth0 c0 A X
  refine z_run X by_X10_ends_0_1 ky_X10_ends_0_1 (lv' := [(0, .ref x)]) (st' := [.ref x]) rfl ?_
  refine z_callV X k_10_216 (cy_X10_gatherSpanG l G x (.ref told) x_reader x_ring speeds x_wheel trials span x_search x_kept crosses x_trueMasses thought x_up x_low x_fits x_pulls sc sf so sX0 sX1 sX2 ff fo cr ft tc tsp twh tfi tse tgi tle tsc tbx tby fsp fwh ffi fse fgi fle fsc fbx fby ec e1 e2 e3 e4 e5 e6 ex ey fex fey tci htc (by omega) hsp hg) dy_X10_ends_1 0 rfl rfl rfl ⟨Nat.le_of_ble_eq_true rfl, Nat.le_of_ble_eq_true rfl⟩ ⟨Nat.le_of_ble_eq_true rfl, Nat.le_of_ble_eq_true rfl⟩ rfl (rest := []) (As := []) rfl (Nat.le_of_ble_eq_true rfl) [0, 3, 4, 5, 6, 7, 8, 9, 10, 11, 12, 13, 14, 15, 16, 17, 18, 19, 20] [1, 2] rfl (by decide) (wr := [(told, ob 8 [.ref tn, .int tl]), (tn, aJ G 16 fn)]) rfl (by decide) (by decide) ?_
  rintro _ _ ⟨ec2_1, fsc2_2, fbx2_3, fby2_4, e12_5, e22_6, e32_7, e42_8, e52_9, e62_10, fex2_11, fey2_12, f1_13, rfl, rfl⟩
  refine Z.at (pc' := 4) (st' := []) (ws' := [(told, ob 8 [.ref tn, .int tl]), (tn, aJ G 16 fn), (x, ob 10 [.ref told, x_reader, x_ring, .ref speeds, x_wheel, .ref trials, .ref span, x_search, x_kept, .ref crosses, x_trueMasses, .ref thought, x_up, x_low, x_fits, x_pulls]), (speeds, ob 7 [.int sc, .ref sf, .ref so, sX0, sX1, sX2]), (sf, aI G 6 ff), (so, aI G 6 fo), (crosses, aI G 4 cr), (thought, aI G 8 ft), (trials, ob 9 [.int tc, .ref tsp, .ref twh, .ref tfi, .ref tse, .ref tgi, .ref tle, .ref tsc, .ref tbx, .ref tby]), (tsp, aI G 12 fsp), (twh, aZ G 12 fwh), (tfi, aI G 12 ffi), (tse, aI G 12 fse), (tgi, aI G 12 fgi), (tle, aI G 48 fle), (tsc, aI G 12 fsc2_2), (tbx, aI G 12 fbx2_3), (tby, aI G 12 fby2_4), (span, ob 1 [.int ec2_1, .int e12_5, .int e22_6, .int e32_7, .int e42_8, .int e52_9, .int e62_10, .ref ex, .ref ey]), (ex, aI G 40 fex2_11), (ey, aI G 40 fey2_12)]) (kc' := 0) (ks' := 0) rfl rfl rfl rfl rfl ?_
  refine z_run X by_X10_ends_4_5 ky_X10_ends_4_5 (lv' := [(0, .ref x)]) (st' := [.ref x]) rfl ?_
  refine z_get X fl_10_54 dy_X10_ends_5 2 rfl (v := .ref span) rfl ?_
  refine z_getN X fl_10_219 dy_X10_ends_8 18 rfl (v := .int ec2_1) rfl ?_
  refine zi_ne X dy_X10_ends_11 (tgt := 16) (by decide) (a := ec2_1.toInt) rfl (fun c11_14 => ?_) (fun c11_14 => ?_)
  ·
    refine z_run X by_X10_ends_16_17 ky_X10_ends_16_17 (lv' := [(0, .ref x)]) (st' := [.ref x]) rfl ?_
    refine z_get X fl_10_12 dy_X10_ends_17 2 rfl (v := .ref told) rfl ?_
    refine z_callV X k_10_180 (cy_X8_startG l G told tn tl fn) dy_X10_ends_20 0 rfl rfl rfl ⟨Nat.le_of_ble_eq_true rfl, Nat.le_of_ble_eq_true rfl⟩ ⟨Nat.le_of_ble_eq_true rfl, Nat.le_of_ble_eq_true rfl⟩ rfl (rest := []) (As := []) rfl (Nat.le_of_ble_eq_true rfl) [0, 1] [2, 3, 4, 5, 6, 7, 8, 9, 10, 11, 12, 13, 14, 15, 16, 17, 18, 19, 20] rfl (by decide) (wr := [(x, ob 10 [.ref told, x_reader, x_ring, .ref speeds, x_wheel, .ref trials, .ref span, x_search, x_kept, .ref crosses, x_trueMasses, .ref thought, x_up, x_low, x_fits, x_pulls]), (speeds, ob 7 [.int sc, .ref sf, .ref so, sX0, sX1, sX2]), (sf, aI G 6 ff), (so, aI G 6 fo), (crosses, aI G 4 cr), (thought, aI G 8 ft), (trials, ob 9 [.int tc, .ref tsp, .ref twh, .ref tfi, .ref tse, .ref tgi, .ref tle, .ref tsc, .ref tbx, .ref tby]), (tsp, aI G 12 fsp), (twh, aZ G 12 fwh), (tfi, aI G 12 ffi), (tse, aI G 12 fse), (tgi, aI G 12 fgi), (tle, aI G 48 fle), (tsc, aI G 12 fsc2_2), (tbx, aI G 12 fbx2_3), (tby, aI G 12 fby2_4), (span, ob 1 [.int ec2_1, .int e12_5, .int e22_6, .int e32_7, .int e42_8, .int e52_9, .int e62_10, .ref ex, .ref ey]), (ex, aI G 40 fex2_11), (ey, aI G 40 fey2_12)]) rfl (by decide) (by decide) ?_
    rintro _ _ ⟨rfl, rfl⟩
    refine Z.at (pc' := 23) (st' := []) (ws' := [(x, ob 10 [.ref told, x_reader, x_ring, .ref speeds, x_wheel, .ref trials, .ref span, x_search, x_kept, .ref crosses, x_trueMasses, .ref thought, x_up, x_low, x_fits, x_pulls]), (speeds, ob 7 [.int sc, .ref sf, .ref so, sX0, sX1, sX2]), (sf, aI G 6 ff), (so, aI G 6 fo), (crosses, aI G 4 cr), (thought, aI G 8 ft), (trials, ob 9 [.int tc, .ref tsp, .ref twh, .ref tfi, .ref tse, .ref tgi, .ref tle, .ref tsc, .ref tbx, .ref tby]), (tsp, aI G 12 fsp), (twh, aZ G 12 fwh), (tfi, aI G 12 ffi), (tse, aI G 12 fse), (tgi, aI G 12 fgi), (tle, aI G 48 fle), (tsc, aI G 12 fsc2_2), (tbx, aI G 12 fbx2_3), (tby, aI G 12 fby2_4), (span, ob 1 [.int ec2_1, .int e12_5, .int e22_6, .int e32_7, .int e42_8, .int e52_9, .int e62_10, .ref ex, .ref ey]), (ex, aI G 40 fex2_11), (ey, aI G 40 fey2_12), (told, ob 8 [.ref tn, .int 0]), (tn, aJ G 16 fn)]) (kc' := 0) (ks' := 0) rfl rfl rfl rfl rfl ?_
    refine z_run X by_X10_ends_23_24 ky_X10_ends_23_24 (lv' := [(0, .ref x)]) (st' := [.ref x]) rfl ?_
    refine z_get X fl_10_12 dy_X10_ends_24 0 rfl (v := .ref told) rfl ?_
    refine z_run X by_X10_ends_27_28 ky_X10_ends_27_28 (lv' := [(0, .ref x)]) (st' := [.ref x, .ref told]) rfl ?_
    refine z_get X fl_10_54 dy_X10_ends_28 0 rfl (v := .ref span) rfl ?_
    refine z_getN X fl_10_220 dy_X10_ends_31 16 rfl (v := .int e12_5) rfl ?_
    refine z_run X by_X10_ends_34_35 ky_X10_ends_34_35 (lv' := [(0, .ref x)]) (st' := [.long e12_5.toInt64, .ref told]) rfl ?_
    refine z_callV X k_10_183 (cy_X8_addG l G told tn 0 fn e12_5.toInt64 0 (show (0 : Int32).toInt = 0 from by decide) (by omega)) dy_X10_ends_35 19 rfl rfl rfl ⟨Nat.le_of_ble_eq_true rfl, Nat.le_of_ble_eq_true rfl⟩ ⟨Nat.le_of_ble_eq_true rfl, Nat.le_of_ble_eq_true rfl⟩ rfl (rest := []) (As := [.long e12_5.toInt64]) rfl (Nat.le_of_ble_eq_true rfl) [19, 20] [0, 1, 2, 3, 4, 5, 6, 7, 8, 9, 10, 11, 12, 13, 14, 15, 16, 17, 18] rfl (by decide) (wr := [(x, ob 10 [.ref told, x_reader, x_ring, .ref speeds, x_wheel, .ref trials, .ref span, x_search, x_kept, .ref crosses, x_trueMasses, .ref thought, x_up, x_low, x_fits, x_pulls]), (speeds, ob 7 [.int sc, .ref sf, .ref so, sX0, sX1, sX2]), (sf, aI G 6 ff), (so, aI G 6 fo), (crosses, aI G 4 cr), (thought, aI G 8 ft), (trials, ob 9 [.int tc, .ref tsp, .ref twh, .ref tfi, .ref tse, .ref tgi, .ref tle, .ref tsc, .ref tbx, .ref tby]), (tsp, aI G 12 fsp), (twh, aZ G 12 fwh), (tfi, aI G 12 ffi), (tse, aI G 12 fse), (tgi, aI G 12 fgi), (tle, aI G 48 fle), (tsc, aI G 12 fsc2_2), (tbx, aI G 12 fbx2_3), (tby, aI G 12 fby2_4), (span, ob 1 [.int ec2_1, .int e12_5, .int e22_6, .int e32_7, .int e42_8, .int e52_9, .int e62_10, .ref ex, .ref ey]), (ex, aI G 40 fex2_11), (ey, aI G 40 fey2_12)]) rfl (by decide) (by decide) ?_
    rintro _ _ ⟨tl2_15, fn2_16, f35_17, rfl, rfl⟩
    refine Z.at (pc' := 38) (st' := []) (ws' := [(x, ob 10 [.ref told, x_reader, x_ring, .ref speeds, x_wheel, .ref trials, .ref span, x_search, x_kept, .ref crosses, x_trueMasses, .ref thought, x_up, x_low, x_fits, x_pulls]), (speeds, ob 7 [.int sc, .ref sf, .ref so, sX0, sX1, sX2]), (sf, aI G 6 ff), (so, aI G 6 fo), (crosses, aI G 4 cr), (thought, aI G 8 ft), (trials, ob 9 [.int tc, .ref tsp, .ref twh, .ref tfi, .ref tse, .ref tgi, .ref tle, .ref tsc, .ref tbx, .ref tby]), (tsp, aI G 12 fsp), (twh, aZ G 12 fwh), (tfi, aI G 12 ffi), (tse, aI G 12 fse), (tgi, aI G 12 fgi), (tle, aI G 48 fle), (tsc, aI G 12 fsc2_2), (tbx, aI G 12 fbx2_3), (tby, aI G 12 fby2_4), (span, ob 1 [.int ec2_1, .int e12_5, .int e22_6, .int e32_7, .int e42_8, .int e52_9, .int e62_10, .ref ex, .ref ey]), (ex, aI G 40 fex2_11), (ey, aI G 40 fey2_12), (told, ob 8 [.ref tn, .int tl2_15]), (tn, aJ G 16 fn2_16)]) (kc' := 0) (ks' := 0) rfl rfl rfl rfl rfl ?_
    refine z_run X by_X10_ends_38_39 ky_X10_ends_38_39 (lv' := [(0, .ref x)]) (st' := [.ref x]) rfl ?_
    refine z_get X fl_10_12 dy_X10_ends_39 0 rfl (v := .ref told) rfl ?_
    refine z_run X by_X10_ends_42_43 ky_X10_ends_42_43 (lv' := [(0, .ref x)]) (st' := [.ref x, .ref told]) rfl ?_
    refine z_get X fl_10_54 dy_X10_ends_43 0 rfl (v := .ref span) rfl ?_
    refine z_getN X fl_10_226 dy_X10_ends_46 16 rfl (v := .int e32_7) rfl ?_
    refine z_run X by_X10_ends_49_50 ky_X10_ends_49_50 (lv' := [(0, .ref x)]) (st' := [.long e32_7.toInt64, .ref told]) rfl ?_
    refine z_callV X k_10_183 (cy_X8_addG l G told tn tl2_15 fn2_16 e32_7.toInt64 tl2_15.toInt rfl (by omega)) dy_X10_ends_50 19 rfl rfl rfl ⟨Nat.le_of_ble_eq_true rfl, Nat.le_of_ble_eq_true rfl⟩ ⟨Nat.le_of_ble_eq_true rfl, Nat.le_of_ble_eq_true rfl⟩ rfl (rest := []) (As := [.long e32_7.toInt64]) rfl (Nat.le_of_ble_eq_true rfl) [19, 20] [0, 1, 2, 3, 4, 5, 6, 7, 8, 9, 10, 11, 12, 13, 14, 15, 16, 17, 18] rfl (by decide) (wr := [(x, ob 10 [.ref told, x_reader, x_ring, .ref speeds, x_wheel, .ref trials, .ref span, x_search, x_kept, .ref crosses, x_trueMasses, .ref thought, x_up, x_low, x_fits, x_pulls]), (speeds, ob 7 [.int sc, .ref sf, .ref so, sX0, sX1, sX2]), (sf, aI G 6 ff), (so, aI G 6 fo), (crosses, aI G 4 cr), (thought, aI G 8 ft), (trials, ob 9 [.int tc, .ref tsp, .ref twh, .ref tfi, .ref tse, .ref tgi, .ref tle, .ref tsc, .ref tbx, .ref tby]), (tsp, aI G 12 fsp), (twh, aZ G 12 fwh), (tfi, aI G 12 ffi), (tse, aI G 12 fse), (tgi, aI G 12 fgi), (tle, aI G 48 fle), (tsc, aI G 12 fsc2_2), (tbx, aI G 12 fbx2_3), (tby, aI G 12 fby2_4), (span, ob 1 [.int ec2_1, .int e12_5, .int e22_6, .int e32_7, .int e42_8, .int e52_9, .int e62_10, .ref ex, .ref ey]), (ex, aI G 40 fex2_11), (ey, aI G 40 fey2_12)]) rfl (by decide) (by decide) ?_
    rintro _ _ ⟨tl2_18, fn2_19, f50_20, rfl, rfl⟩
    refine Z.at (pc' := 53) (st' := []) (ws' := [(x, ob 10 [.ref told, x_reader, x_ring, .ref speeds, x_wheel, .ref trials, .ref span, x_search, x_kept, .ref crosses, x_trueMasses, .ref thought, x_up, x_low, x_fits, x_pulls]), (speeds, ob 7 [.int sc, .ref sf, .ref so, sX0, sX1, sX2]), (sf, aI G 6 ff), (so, aI G 6 fo), (crosses, aI G 4 cr), (thought, aI G 8 ft), (trials, ob 9 [.int tc, .ref tsp, .ref twh, .ref tfi, .ref tse, .ref tgi, .ref tle, .ref tsc, .ref tbx, .ref tby]), (tsp, aI G 12 fsp), (twh, aZ G 12 fwh), (tfi, aI G 12 ffi), (tse, aI G 12 fse), (tgi, aI G 12 fgi), (tle, aI G 48 fle), (tsc, aI G 12 fsc2_2), (tbx, aI G 12 fbx2_3), (tby, aI G 12 fby2_4), (span, ob 1 [.int ec2_1, .int e12_5, .int e22_6, .int e32_7, .int e42_8, .int e52_9, .int e62_10, .ref ex, .ref ey]), (ex, aI G 40 fex2_11), (ey, aI G 40 fey2_12), (told, ob 8 [.ref tn, .int tl2_18]), (tn, aJ G 16 fn2_19)]) (kc' := 0) (ks' := 0) rfl rfl rfl rfl rfl ?_
    refine z_run X by_X10_ends_53_54 ky_X10_ends_53_54 (lv' := [(0, .ref x)]) (st' := [.ref x]) rfl ?_
    refine z_get X fl_10_12 dy_X10_ends_54 0 rfl (v := .ref told) rfl ?_
    refine z_run X by_X10_ends_57_58 ky_X10_ends_57_58 (lv' := [(0, .ref x)]) (st' := [.ref x, .ref told]) rfl ?_
    refine z_get X fl_10_54 dy_X10_ends_58 0 rfl (v := .ref span) rfl ?_
    refine z_getN X fl_10_232 dy_X10_ends_61 16 rfl (v := .int e52_9) rfl ?_
    refine z_run X by_X10_ends_64_65 ky_X10_ends_64_65 (lv' := [(0, .ref x)]) (st' := [.long e52_9.toInt64, .ref told]) rfl ?_
    refine z_callV X k_10_183 (cy_X8_addG l G told tn tl2_18 fn2_19 e52_9.toInt64 tl2_18.toInt rfl (by omega)) dy_X10_ends_65 19 rfl rfl rfl ⟨Nat.le_of_ble_eq_true rfl, Nat.le_of_ble_eq_true rfl⟩ ⟨Nat.le_of_ble_eq_true rfl, Nat.le_of_ble_eq_true rfl⟩ rfl (rest := []) (As := [.long e52_9.toInt64]) rfl (Nat.le_of_ble_eq_true rfl) [19, 20] [0, 1, 2, 3, 4, 5, 6, 7, 8, 9, 10, 11, 12, 13, 14, 15, 16, 17, 18] rfl (by decide) (wr := [(x, ob 10 [.ref told, x_reader, x_ring, .ref speeds, x_wheel, .ref trials, .ref span, x_search, x_kept, .ref crosses, x_trueMasses, .ref thought, x_up, x_low, x_fits, x_pulls]), (speeds, ob 7 [.int sc, .ref sf, .ref so, sX0, sX1, sX2]), (sf, aI G 6 ff), (so, aI G 6 fo), (crosses, aI G 4 cr), (thought, aI G 8 ft), (trials, ob 9 [.int tc, .ref tsp, .ref twh, .ref tfi, .ref tse, .ref tgi, .ref tle, .ref tsc, .ref tbx, .ref tby]), (tsp, aI G 12 fsp), (twh, aZ G 12 fwh), (tfi, aI G 12 ffi), (tse, aI G 12 fse), (tgi, aI G 12 fgi), (tle, aI G 48 fle), (tsc, aI G 12 fsc2_2), (tbx, aI G 12 fbx2_3), (tby, aI G 12 fby2_4), (span, ob 1 [.int ec2_1, .int e12_5, .int e22_6, .int e32_7, .int e42_8, .int e52_9, .int e62_10, .ref ex, .ref ey]), (ex, aI G 40 fex2_11), (ey, aI G 40 fey2_12)]) rfl (by decide) (by decide) ?_
    rintro _ _ ⟨tl2_21, fn2_22, f65_23, rfl, rfl⟩
    refine Z.at (pc' := 68) (st' := []) (ws' := [(x, ob 10 [.ref told, x_reader, x_ring, .ref speeds, x_wheel, .ref trials, .ref span, x_search, x_kept, .ref crosses, x_trueMasses, .ref thought, x_up, x_low, x_fits, x_pulls]), (speeds, ob 7 [.int sc, .ref sf, .ref so, sX0, sX1, sX2]), (sf, aI G 6 ff), (so, aI G 6 fo), (crosses, aI G 4 cr), (thought, aI G 8 ft), (trials, ob 9 [.int tc, .ref tsp, .ref twh, .ref tfi, .ref tse, .ref tgi, .ref tle, .ref tsc, .ref tbx, .ref tby]), (tsp, aI G 12 fsp), (twh, aZ G 12 fwh), (tfi, aI G 12 ffi), (tse, aI G 12 fse), (tgi, aI G 12 fgi), (tle, aI G 48 fle), (tsc, aI G 12 fsc2_2), (tbx, aI G 12 fbx2_3), (tby, aI G 12 fby2_4), (span, ob 1 [.int ec2_1, .int e12_5, .int e22_6, .int e32_7, .int e42_8, .int e52_9, .int e62_10, .ref ex, .ref ey]), (ex, aI G 40 fex2_11), (ey, aI G 40 fey2_12), (told, ob 8 [.ref tn, .int tl2_21]), (tn, aJ G 16 fn2_22)]) (kc' := 0) (ks' := 0) rfl rfl rfl rfl rfl ?_
    refine z_run X by_X10_ends_68_69 ky_X10_ends_68_69 (lv' := [(0, .ref x)]) (st' := [.ref x]) rfl ?_
    refine z_get X fl_10_12 dy_X10_ends_69 0 rfl (v := .ref told) rfl ?_
    refine z_run X by_X10_ends_72_73 ky_X10_ends_72_73 (lv' := [(0, .ref x)]) (st' := [.ref x, .ref told]) rfl ?_
    refine z_get X fl_10_54 dy_X10_ends_73 0 rfl (v := .ref span) rfl ?_
    refine z_getN X fl_10_235 dy_X10_ends_76 16 rfl (v := .int e62_10) rfl ?_
    refine z_run X by_X10_ends_79_80 ky_X10_ends_79_80 (lv' := [(0, .ref x)]) (st' := [.long e62_10.toInt64, .ref told]) rfl ?_
    refine z_callV X k_10_183 (cy_X8_addG l G told tn tl2_21 fn2_22 e62_10.toInt64 tl2_21.toInt rfl (by omega)) dy_X10_ends_80 19 rfl rfl rfl ⟨Nat.le_of_ble_eq_true rfl, Nat.le_of_ble_eq_true rfl⟩ ⟨Nat.le_of_ble_eq_true rfl, Nat.le_of_ble_eq_true rfl⟩ rfl (rest := []) (As := [.long e62_10.toInt64]) rfl (Nat.le_of_ble_eq_true rfl) [19, 20] [0, 1, 2, 3, 4, 5, 6, 7, 8, 9, 10, 11, 12, 13, 14, 15, 16, 17, 18] rfl (by decide) (wr := [(x, ob 10 [.ref told, x_reader, x_ring, .ref speeds, x_wheel, .ref trials, .ref span, x_search, x_kept, .ref crosses, x_trueMasses, .ref thought, x_up, x_low, x_fits, x_pulls]), (speeds, ob 7 [.int sc, .ref sf, .ref so, sX0, sX1, sX2]), (sf, aI G 6 ff), (so, aI G 6 fo), (crosses, aI G 4 cr), (thought, aI G 8 ft), (trials, ob 9 [.int tc, .ref tsp, .ref twh, .ref tfi, .ref tse, .ref tgi, .ref tle, .ref tsc, .ref tbx, .ref tby]), (tsp, aI G 12 fsp), (twh, aZ G 12 fwh), (tfi, aI G 12 ffi), (tse, aI G 12 fse), (tgi, aI G 12 fgi), (tle, aI G 48 fle), (tsc, aI G 12 fsc2_2), (tbx, aI G 12 fbx2_3), (tby, aI G 12 fby2_4), (span, ob 1 [.int ec2_1, .int e12_5, .int e22_6, .int e32_7, .int e42_8, .int e52_9, .int e62_10, .ref ex, .ref ey]), (ex, aI G 40 fex2_11), (ey, aI G 40 fey2_12)]) rfl (by decide) (by decide) ?_
    rintro _ _ ⟨tl2_24, fn2_25, f80_26, rfl, rfl⟩
    refine Z.at (pc' := 83) (st' := []) (ws' := [(x, ob 10 [.ref told, x_reader, x_ring, .ref speeds, x_wheel, .ref trials, .ref span, x_search, x_kept, .ref crosses, x_trueMasses, .ref thought, x_up, x_low, x_fits, x_pulls]), (speeds, ob 7 [.int sc, .ref sf, .ref so, sX0, sX1, sX2]), (sf, aI G 6 ff), (so, aI G 6 fo), (crosses, aI G 4 cr), (thought, aI G 8 ft), (trials, ob 9 [.int tc, .ref tsp, .ref twh, .ref tfi, .ref tse, .ref tgi, .ref tle, .ref tsc, .ref tbx, .ref tby]), (tsp, aI G 12 fsp), (twh, aZ G 12 fwh), (tfi, aI G 12 ffi), (tse, aI G 12 fse), (tgi, aI G 12 fgi), (tle, aI G 48 fle), (tsc, aI G 12 fsc2_2), (tbx, aI G 12 fbx2_3), (tby, aI G 12 fby2_4), (span, ob 1 [.int ec2_1, .int e12_5, .int e22_6, .int e32_7, .int e42_8, .int e52_9, .int e62_10, .ref ex, .ref ey]), (ex, aI G 40 fex2_11), (ey, aI G 40 fey2_12), (told, ob 8 [.ref tn, .int tl2_24]), (tn, aJ G 16 fn2_25)]) (kc' := 0) (ks' := 0) rfl rfl rfl rfl rfl ?_
    refine z_run X by_X10_ends_83_84 ky_X10_ends_83_84 (lv' := [(0, .ref x)]) (st' := [.ref x]) rfl ?_
    refine z_get X fl_10_12 dy_X10_ends_84 0 rfl (v := .ref told) rfl ?_
    refine z_run X by_X10_ends_87_88 ky_X10_ends_87_88 (lv' := [(0, .ref x)]) (st' := [.ref x, .ref told]) rfl ?_
    refine z_get X fl_10_54 dy_X10_ends_88 0 rfl (v := .ref span) rfl ?_
    refine z_callV X k_10_238 (cy_X1_widestG l G span ec2_1 e12_5 e22_6 e32_7 e42_8 e52_9 e62_10 ex ey fex2_11 fey2_12 ec2_1.toInt rfl (by omega)) dy_X10_ends_91 16 rfl rfl rfl ⟨Nat.le_of_ble_eq_true rfl, Nat.le_of_ble_eq_true rfl⟩ ⟨Nat.le_of_ble_eq_true rfl, Nat.le_of_ble_eq_true rfl⟩ rfl (rest := [.ref told]) (As := []) rfl (Nat.le_of_ble_eq_true rfl) [16, 17, 18] [0, 1, 2, 3, 4, 5, 6, 7, 8, 9, 10, 11, 12, 13, 14, 15, 19, 20] rfl (by decide) (wr := [(x, ob 10 [.ref told, x_reader, x_ring, .ref speeds, x_wheel, .ref trials, .ref span, x_search, x_kept, .ref crosses, x_trueMasses, .ref thought, x_up, x_low, x_fits, x_pulls]), (speeds, ob 7 [.int sc, .ref sf, .ref so, sX0, sX1, sX2]), (sf, aI G 6 ff), (so, aI G 6 fo), (crosses, aI G 4 cr), (thought, aI G 8 ft), (trials, ob 9 [.int tc, .ref tsp, .ref twh, .ref tfi, .ref tse, .ref tgi, .ref tle, .ref tsc, .ref tbx, .ref tby]), (tsp, aI G 12 fsp), (twh, aZ G 12 fwh), (tfi, aI G 12 ffi), (tse, aI G 12 fse), (tgi, aI G 12 fgi), (tle, aI G 48 fle), (tsc, aI G 12 fsc2_2), (tbx, aI G 12 fbx2_3), (tby, aI G 12 fby2_4), (told, ob 8 [.ref tn, .int tl2_24]), (tn, aJ G 16 fn2_25)]) rfl (by decide) (by decide) ?_
    rintro _ _ ⟨rz_27, rfl, rfl⟩
    refine Z.at (pc' := 94) (st' := [.long rz_27, .ref told]) (ws' := [(x, ob 10 [.ref told, x_reader, x_ring, .ref speeds, x_wheel, .ref trials, .ref span, x_search, x_kept, .ref crosses, x_trueMasses, .ref thought, x_up, x_low, x_fits, x_pulls]), (speeds, ob 7 [.int sc, .ref sf, .ref so, sX0, sX1, sX2]), (sf, aI G 6 ff), (so, aI G 6 fo), (crosses, aI G 4 cr), (thought, aI G 8 ft), (trials, ob 9 [.int tc, .ref tsp, .ref twh, .ref tfi, .ref tse, .ref tgi, .ref tle, .ref tsc, .ref tbx, .ref tby]), (tsp, aI G 12 fsp), (twh, aZ G 12 fwh), (tfi, aI G 12 ffi), (tse, aI G 12 fse), (tgi, aI G 12 fgi), (tle, aI G 48 fle), (tsc, aI G 12 fsc2_2), (tbx, aI G 12 fbx2_3), (tby, aI G 12 fby2_4), (told, ob 8 [.ref tn, .int tl2_24]), (tn, aJ G 16 fn2_25), (span, ob 1 [.int ec2_1, .int e12_5, .int e22_6, .int e32_7, .int e42_8, .int e52_9, .int e62_10, .ref ex, .ref ey]), (ex, aI G 40 fex2_11), (ey, aI G 40 fey2_12)]) (kc' := 0) (ks' := 0) rfl rfl rfl rfl rfl ?_
    refine z_callV X k_10_183 (cy_X8_addG l G told tn tl2_24 fn2_25 rz_27 tl2_24.toInt rfl (by omega)) dy_X10_ends_94 16 rfl rfl rfl ⟨Nat.le_of_ble_eq_true rfl, Nat.le_of_ble_eq_true rfl⟩ ⟨Nat.le_of_ble_eq_true rfl, Nat.le_of_ble_eq_true rfl⟩ rfl (rest := []) (As := [.long rz_27]) rfl (Nat.le_of_ble_eq_true rfl) [16, 17] [0, 1, 2, 3, 4, 5, 6, 7, 8, 9, 10, 11, 12, 13, 14, 15, 18, 19, 20] rfl (by decide) (wr := [(x, ob 10 [.ref told, x_reader, x_ring, .ref speeds, x_wheel, .ref trials, .ref span, x_search, x_kept, .ref crosses, x_trueMasses, .ref thought, x_up, x_low, x_fits, x_pulls]), (speeds, ob 7 [.int sc, .ref sf, .ref so, sX0, sX1, sX2]), (sf, aI G 6 ff), (so, aI G 6 fo), (crosses, aI G 4 cr), (thought, aI G 8 ft), (trials, ob 9 [.int tc, .ref tsp, .ref twh, .ref tfi, .ref tse, .ref tgi, .ref tle, .ref tsc, .ref tbx, .ref tby]), (tsp, aI G 12 fsp), (twh, aZ G 12 fwh), (tfi, aI G 12 ffi), (tse, aI G 12 fse), (tgi, aI G 12 fgi), (tle, aI G 48 fle), (tsc, aI G 12 fsc2_2), (tbx, aI G 12 fbx2_3), (tby, aI G 12 fby2_4), (span, ob 1 [.int ec2_1, .int e12_5, .int e22_6, .int e32_7, .int e42_8, .int e52_9, .int e62_10, .ref ex, .ref ey]), (ex, aI G 40 fex2_11), (ey, aI G 40 fey2_12)]) rfl (by decide) (by decide) ?_
    rintro _ _ ⟨tl2_28, fn2_29, f94_30, rfl, rfl⟩
    refine Z.at (pc' := 97) (st' := []) (ws' := [(x, ob 10 [.ref told, x_reader, x_ring, .ref speeds, x_wheel, .ref trials, .ref span, x_search, x_kept, .ref crosses, x_trueMasses, .ref thought, x_up, x_low, x_fits, x_pulls]), (speeds, ob 7 [.int sc, .ref sf, .ref so, sX0, sX1, sX2]), (sf, aI G 6 ff), (so, aI G 6 fo), (crosses, aI G 4 cr), (thought, aI G 8 ft), (trials, ob 9 [.int tc, .ref tsp, .ref twh, .ref tfi, .ref tse, .ref tgi, .ref tle, .ref tsc, .ref tbx, .ref tby]), (tsp, aI G 12 fsp), (twh, aZ G 12 fwh), (tfi, aI G 12 ffi), (tse, aI G 12 fse), (tgi, aI G 12 fgi), (tle, aI G 48 fle), (tsc, aI G 12 fsc2_2), (tbx, aI G 12 fbx2_3), (tby, aI G 12 fby2_4), (span, ob 1 [.int ec2_1, .int e12_5, .int e22_6, .int e32_7, .int e42_8, .int e52_9, .int e62_10, .ref ex, .ref ey]), (ex, aI G 40 fex2_11), (ey, aI G 40 fey2_12), (told, ob 8 [.ref tn, .int tl2_28]), (tn, aJ G 16 fn2_29)]) (kc' := 0) (ks' := 0) rfl rfl rfl rfl rfl ?_
    refine z_run X by_X10_ends_97_98 ky_X10_ends_97_98 (lv' := [(0, .ref x)]) (st' := [.ref x]) rfl ?_
    refine z_get X fl_10_54 dy_X10_ends_98 0 rfl (v := .ref span) rfl ?_
    refine z_getN X fl_10_219 dy_X10_ends_101 16 rfl (v := .int ec2_1) rfl ?_
    exact z_iret X rfl dy_X10_ends_104 (Nat.le_of_ble_eq_true rfl) (Nat.le_of_ble_eq_true rfl) ⟨ec2_1, f1_13, rfl⟩
  ·
    refine z_run X by_X10_ends_14_15 ky_X10_ends_14_15 (lv' := [(0, .ref x)]) (st' := [.int 0]) rfl ?_
    exact z_iret X rfl dy_X10_ends_15 (Nat.le_of_ble_eq_true rfl) (Nat.le_of_ble_eq_true rfl) ⟨(0 : Int32), ((show (0 : Int32).toInt = 0 from by decide).trans (by rw [← f1_13]; omega)), rfl⟩

