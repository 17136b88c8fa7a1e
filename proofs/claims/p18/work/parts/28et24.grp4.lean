/-! settle: one thing on both sides -/
abbrev EH (h : Int) (f g : Nat → Int32) : Prop := ∀ j : Nat, (j : Int) < h → f j = g j
theorem bst_congr {ok ok' : Nat → Prop} [DecidablePred ok] [DecidablePred ok'] {S S' : Nat → Int} : ∀ {n : Nat}, (∀ j, j < n → (ok j ↔ ok' j)) → (∀ j, j < n → S j = S' j) → bst ok S n = bst ok' S' n
  | 0, _, _ => rfl
  | n + 1, h1, h2 => by
    have e := bst_congr (n := n) (fun j hj => h1 j (Nat.lt_succ_of_lt hj)) (fun j hj => h2 j (Nat.lt_succ_of_lt hj))
    have l := bst_lt (ok := ok) (S := S) (n := n)
    have hc : (ok n ∧ (bst ok S n < 0 ∨ S n < S (bst ok S n).toNat)) ↔ (ok' n ∧ (bst ok' S' n < 0 ∨ S' n < S' (bst ok' S' n).toNat)) := by
      rw [← e, ← h2 n (Nat.lt_succ_self n), h1 n (Nat.lt_succ_self n)]
      by_cases b : bst ok S n < 0
      · exact ⟨fun z => ⟨z.1, Or.inl b⟩, fun z => ⟨z.1, Or.inl b⟩⟩
      · rw [h2 (bst ok S n).toNat (by omega)]
    show (if ok n ∧ (bst ok S n < 0 ∨ S n < S (bst ok S n).toNat) then (n : Int) else bst ok S n) = (if ok' n ∧ (bst ok' S' n < 0 ∨ S' n < S' (bst ok' S' n).toNat) then (n : Int) else bst ok' S' n)
    by_cases c : ok n ∧ (bst ok S n < 0 ∨ S n < S (bst ok S n).toNat)
    · rw [if_pos c, if_pos (hc.mp c)]
    · rw [if_neg c, if_neg (fun z => c (hc.mpr z)), e]
theorem szO_congr {ux uy : Int32} {fx fy gx gy : Nat → Int32} {w : Int} {j : Nat} (e3 : fx j = gx j) (e4 : fy j = gy j) : szO ux uy fx fy w j = szO ux uy gx gy w j := by
  unfold szO
  rw [e3, e4]
section NXC
variable {h : Int} {fp fr fx fy gp gr gx gy : Nat → Int32} {tx ty : Int32} {p : Int}
theorem bO_congr {fh gh : Nat → Int32} {ux uy : Int32} {w : Int} (e1 : EH h fp gp) (e2 : EH h fr gr) (e3 : EH h fx gx) (e4 : EH h fy gy) (e5 : EH h fh gh) : bO fp fh fr fx fy ux uy p w h.toNat = bO gp gh gr gx gy ux uy p w h.toNat := by
  refine bst_congr (fun j hj => ?_) (fun j hj => ?_)
  · unfold okO
    rw [e1 j (by omega), e5 j (by omega), e2 j (by omega)]
  · rw [szO_congr (e3 j (by omega)) (e4 j (by omega))]
theorem upd_EH {fh gh : Nat → Int32} {j : Nat} {v w : Int32} (e5 : EH h fh gh) (e : v = w) : EH h (upd fh j v) (upd gh j w) := by
  intro k hk
  by_cases c : k = j
  · rw [c, upd_at, upd_at, e]
  · rw [upd_off c, upd_off c]
    exact e5 k hk
theorem nx1_congr {fh gh : Nat → Int32} (e1 : EH h fp gp) (e2 : EH h fr gr) (e3 : EH h fx gx) (e4 : EH h fy gy) (e5 : EH h fh gh) : (nx1 h fp fr fx fy tx ty p fh = none ∧ nx1 h gp gr gx gy tx ty p gh = none) ∨ ∃ a b, nx1 h fp fr fx fy tx ty p fh = some a ∧ nx1 h gp gr gx gy tx ty p gh = some b ∧ EH h a b := by
  have eux : lw gp gh gx p h.toNat = lw fp fh fx p h.toNat := (lw_congr (fun j hj => ⟨e1 j (by omega), e5 j (by omega), e3 j (by omega)⟩)).symm
  have euy : lw gp gh gy p h.toNat = lw fp fh fy p h.toNat := (lw_congr (fun j hj => ⟨e1 j (by omega), e5 j (by omega), e4 j (by omega)⟩)).symm
  have k0 := fun q => bO_ok (fp := fp) (fh := fh) (fr := fr) (fx := fx) (fy := fy) (ux := tx + lw fp fh fx p h.toNat) (uy := ty + lw fp fh fy p h.toNat) (p := p) (w := 0) (n := h.toNat) q
  have k1 := fun q => bO_ok (fp := fp) (fh := fh) (fr := fr) (fx := fx) (fy := fy) (ux := tx + lw fp fh fx p h.toNat) (uy := ty + lw fp fh fy p h.toNat) (p := p) (w := 1) (n := h.toNat) q
  unfold nx1
  dsimp only
  rw [eux, euy, ← bO_congr (p := p) (ux := tx + lw fp fh fx p h.toNat) (uy := ty + lw fp fh fy p h.toNat) (w := 0) e1 e2 e3 e4 e5, ← bO_congr (p := p) (ux := tx + lw fp fh fx p h.toNat) (uy := ty + lw fp fh fy p h.toNat) (w := 1) e1 e2 e3 e4 e5]
  generalize tx + lw fp fh fx p h.toNat = ux at k0 k1 ⊢
  generalize ty + lw fp fh fy p h.toNat = uy at k0 k1 ⊢
  generalize bO fp fh fr fx fy ux uy p 0 h.toNat = a at k0 ⊢
  generalize bO fp fh fr fx fy ux uy p 1 h.toNat = b at k1 ⊢
  have eA : (if 0 ≤ a then (szO ux uy gx gy 0 a.toNat).toInt - (sz ux uy).toInt else 0) = (if 0 ≤ a then (szO ux uy fx fy 0 a.toNat).toInt - (sz ux uy).toInt else 0) := by
    by_cases c : 0 ≤ a
    · have z := k0 c
      rw [if_pos c, if_pos c, szO_congr (e3 a.toNat (by omega)) (e4 a.toNat (by omega))]
    · rw [if_neg c, if_neg c]
  have eB : (if 0 ≤ b then (szO ux uy gx gy 1 b.toNat).toInt - (sz ux uy).toInt else 0) = (if 0 ≤ b then (szO ux uy fx fy 1 b.toNat).toInt - (sz ux uy).toInt else 0) := by
    by_cases c : 0 ≤ b
    · have z := k1 c
      rw [if_pos c, if_pos c, szO_congr (e3 b.toNat (by omega)) (e4 b.toNat (by omega))]
    · rw [if_neg c, if_neg c]
  rw [eA, eB]
  have hA : ¬ 0 ≤ a → (if 0 ≤ a then (szO ux uy fx fy 0 a.toNat).toInt - (sz ux uy).toInt else 0) = 0 := fun q => if_neg q
  have hB : ¬ 0 ≤ b → (if 0 ≤ b then (szO ux uy fx fy 1 b.toNat).toInt - (sz ux uy).toInt else 0) = 0 := fun q => if_neg q
  generalize (if 0 ≤ a then (szO ux uy fx fy 0 a.toNat).toInt - (sz ux uy).toInt else 0) = A at hA ⊢
  generalize (if 0 ≤ b then (szO ux uy fx fy 1 b.toNat).toInt - (sz ux uy).toInt else 0) = B at hB ⊢
  by_cases c : 0 ≤ A ∧ 0 ≤ B
  · exact Or.inl ⟨if_pos c, if_pos c⟩
  · by_cases d : A ≤ B
    · have ha : 0 ≤ a := by
        apply Classical.byContradiction
        intro q
        have z := hA q
        exact c ⟨by omega, by omega⟩
      have z := (k0 ha).1
      refine Or.inr ⟨_, _, (if_neg c).trans (if_pos d), (if_neg c).trans (if_pos d), upd_EH e5 ?_⟩
      rw [e5 a.toNat (by omega)]
    · have hb : 0 ≤ b := by
        apply Classical.byContradiction
        intro q
        have z := hB q
        exact c ⟨by omega, by omega⟩
      have z := (k1 hb).1
      refine Or.inr ⟨_, _, (if_neg c).trans (if_neg d), (if_neg c).trans (if_neg d), upd_EH e5 ?_⟩
      rw [e5 b.toNat (by omega)]
theorem itr_congr {fh gh : Nat → Int32} (e1 : EH h fp gp) (e2 : EH h fr gr) (e3 : EH h fx gx) (e4 : EH h fy gy) (e5 : EH h fh gh) : ∀ n, (itr (nx1 h fp fr fx fy tx ty p) fh n = none ∧ itr (nx1 h gp gr gx gy tx ty p) gh n = none) ∨ ∃ a b, itr (nx1 h fp fr fx fy tx ty p) fh n = some a ∧ itr (nx1 h gp gr gx gy tx ty p) gh n = some b ∧ EH h a b
  | 0 => Or.inr ⟨fh, gh, rfl, rfl, e5⟩
  | n + 1 => by
    show ((itr (nx1 h fp fr fx fy tx ty p) fh n).bind (nx1 h fp fr fx fy tx ty p) = none ∧ (itr (nx1 h gp gr gx gy tx ty p) gh n).bind (nx1 h gp gr gx gy tx ty p) = none) ∨ ∃ a b, (itr (nx1 h fp fr fx fy tx ty p) fh n).bind (nx1 h fp fr fx fy tx ty p) = some a ∧ (itr (nx1 h gp gr gx gy tx ty p) gh n).bind (nx1 h gp gr gx gy tx ty p) = some b ∧ EH h a b
    rcases itr_congr e1 e2 e3 e4 e5 n with ⟨a1, a2⟩ | ⟨a, b, a1, a2, a3⟩
    · rw [a1, a2]
      exact Or.inl ⟨rfl, rfl⟩
    · rw [a1, a2]
      exact nx1_congr e1 e2 e3 e4 a3
def SetE (h : Int) (fp fr fx fy : Nat → Int32) (tx ty : Int32) (p : Int) (fh : Nat → Int32) (rz : Int32) (fh2 : Nat → Int32) : Prop := (¬ (0 ≤ p ∧ p ≤ 1) ∧ rz = -1 ∧ fh2 = fh) ∨ ((0 ≤ p ∧ p ≤ 1) ∧ (0 ≤ rz.toInt ∧ rz.toInt ≤ 200) ∧ itr (nx1 h fp fr fx fy tx ty p) fh rz.toInt.toNat = some fh2 ∧ (rz.toInt.toNat = 200 ∨ nx1 h fp fr fx fy tx ty p fh2 = none))
theorem SetE.same {ux uy : Int32} {fh gh q1 g1 : Nat → Int32} {v1 v2 : Int32} (e1 : EH h fp gp) (e2 : EH h fr gr) (e3 : EH h fx gx) (e4 : EH h fy gy) (e5 : EH h fh gh) (et : 0 ≤ p ∧ p ≤ 1 → tx = ux ∧ ty = uy) (A : SetE h fp fr fx fy tx ty p fh v1 q1) (B : SetE h gp gr gx gy ux uy p gh v2 g1) : v1 = v2 ∧ EH h q1 g1 := by
  rcases A with ⟨a0, a1, a2⟩ | ⟨a0, a1, a2, a3⟩
  · rcases B with ⟨-, b1, b2⟩ | ⟨b0, -⟩
    · rw [a1, b1, a2, b2]
      exact ⟨rfl, e5⟩
    · exact absurd b0 a0
  · rcases B with ⟨b0, -⟩ | ⟨-, b1, b2, b3⟩
    · exact absurd a0 b0
    · obtain ⟨t1, t2⟩ := et a0
      subst t1
      subst t2
      rcases itr_congr (tx := tx) (ty := ty) (p := p) e1 e2 e3 e4 e5 v2.toInt.toNat with ⟨-, c2⟩ | ⟨a, b, c1, c2, c3⟩
      · rw [b2] at c2
        cases c2
      · rw [b2] at c2
        obtain rfl := Option.some.inj c2
        have s2 : v2.toInt.toNat = 200 ∨ nx1 h fp fr fx fy tx ty p a = none := by
          rcases b3 with b3 | b3
          · exact Or.inl b3
          · rcases nx1_congr (tx := tx) (ty := ty) (p := p) e1 e2 e3 e4 c3 with ⟨d1, -⟩ | ⟨_, _, -, d2, -⟩
            · exact Or.inr d1
            · rw [b3] at d2
              cases d2
        obtain ⟨n1, n2⟩ := itr_stop a2 c1 a3 s2 (by omega) (by omega)
        subst n2
        exact ⟨Int32.toInt_inj.mp (by omega), c3⟩
/-- what settle leaves: nothing beyond the holes, no more than ROOM -/
theorem itr_P {r fh : Nat → Int32} (hh : h ≤ 16) (hr : ∀ j : Nat, (j : Int) < h → fr j = r j) (r9 : ∀ j : Nat, j < 16 → 0 ≤ (r j).toInt ∧ (r j).toInt ≤ 9) (p1 : ∀ j : Nat, j < 16 → h ≤ (j : Int) → fh j = 0) (p2 : ∀ j : Nat, j < 16 → (fh j).toInt ≤ (r j).toInt) (p3 : ∀ j : Nat, (j : Int) < h → 0 ≤ (fh j).toInt) : ∀ n g, itr (nx1 h fp fr fx fy tx ty p) fh n = some g → (∀ j : Nat, j < 16 → h ≤ (j : Int) → g j = 0) ∧ (∀ j : Nat, j < 16 → (g j).toInt ≤ (r j).toInt) ∧ ∀ j : Nat, (j : Int) < h → 0 ≤ (g j).toInt
  | 0, g, e => by
    obtain rfl := Option.some.inj e
    exact ⟨p1, p2, p3⟩
  | n + 1, g, e => by
    have e : (itr (nx1 h fp fr fx fy tx ty p) fh n).bind (nx1 h fp fr fx fy tx ty p) = some g := e
    cases e9 : itr (nx1 h fp fr fx fy tx ty p) fh n with
    | none => rw [e9] at e; cases e
    | some f =>
      rw [e9] at e
      have e : nx1 h fp fr fx fy tx ty p f = some g := e
      obtain ⟨q1, q2, q3⟩ := itr_P hh hr r9 p1 p2 p3 n f e9
      obtain ⟨j, v, j1, rfl, hv⟩ := nx1_some e
      have bj := q3 j j1
      have rj := r9 j (by omega)
      have fj := q2 j (by omega)
      rw [hr j j1] at hv
      refine ⟨fun k hk hl => ?_, fun k hk => ?_, fun k hk => ?_⟩
      · rw [upd_off (by omega)]
        exact q1 k hk hl
      · by_cases ek : k = j
        · subst ek
          rw [upd_at]
          rcases hv with ⟨rfl, c⟩ | ⟨rfl, c⟩
          · rw [add_one (by omega)]
            omega
          · rw [sub_one (by omega)]
            omega
        · rw [upd_off ek]
          exact q2 k hk
      · by_cases ek : k = j
        · subst ek
          rw [upd_at]
          rcases hv with ⟨rfl, c⟩ | ⟨rfl, c⟩
          · rw [add_one (by omega)]
            omega
          · rw [sub_one (by omega)]
            omega
        · rw [upd_off ek]
          exact q3 k hk
theorem SetE.P {r fh q : Nat → Int32} {v : Int32} (hh : h ≤ 16) (hr : ∀ j : Nat, (j : Int) < h → fr j = r j) (r9 : ∀ j : Nat, j < 16 → 0 ≤ (r j).toInt ∧ (r j).toInt ≤ 9) (p1 : ∀ j : Nat, j < 16 → h ≤ (j : Int) → fh j = 0) (p2 : ∀ j : Nat, j < 16 → (fh j).toInt ≤ (r j).toInt) (p3 : ∀ j : Nat, (j : Int) < h → 0 ≤ (fh j).toInt) (A : SetE h fp fr fx fy tx ty p fh v q) : (∀ j : Nat, j < 16 → h ≤ (j : Int) → q j = 0) ∧ ∀ j : Nat, j < 16 → (q j).toInt ≤ (r j).toInt := by
  rcases A with ⟨-, -, rfl⟩ | ⟨-, -, a2, -⟩
  · exact ⟨p1, p2⟩
  · have z := itr_P (tx := tx) (ty := ty) (p := p) hh hr r9 p1 p2 p3 _ _ a2
    exact ⟨z.1, z.2.1⟩
end NXC
