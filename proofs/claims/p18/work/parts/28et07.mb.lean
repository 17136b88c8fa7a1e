/-! what a text tells lies within its bounds -/
theorem num_b {f : Nat → Int32} {L p lo hi : Int32} (h : (num f L p lo hi).1 = true) : lo.toInt ≤ (num f L p lo hi).2.2.toInt ∧ (num f L p lo hi).2.2.toInt ≤ hi.toInt := by
  have e48 : (48 : Int32).toInt = 48 := by decide
  have e10 : (10 : Int32).toInt = 10 := by decide
  unfold num at h ⊢
  by_cases c1 : p.toInt < L.toInt ∧ 48 ≤ (f p.toNatClampNeg).toInt ∧ (f p.toNatClampNeg).toInt ≤ 57
  · have d1 : (f p.toNatClampNeg - 48).toInt = (f p.toNatClampNeg).toInt - 48 := tI_sub rfl e48 (by omega)
    rw [if_pos c1] at h ⊢
    by_cases c2 : p.toInt + 1 < L.toInt ∧ 48 ≤ (f (p + 1).toNatClampNeg).toInt ∧ (f (p + 1).toNatClampNeg).toInt ≤ 57
    · have d2 : (10 * (f p.toNatClampNeg - 48) + f (p + 1).toNatClampNeg - 48).toInt = 10 * ((f p.toNatClampNeg).toInt - 48) + (f (p + 1).toNatClampNeg).toInt - 48 := tI_sub (tI_add (tI_mul e10 d1 (by omega)) rfl (by omega)) e48 (by omega)
      rw [if_pos c2] at h ⊢
      by_cases c3 : lo.toInt ≤ 10 * ((f p.toNatClampNeg).toInt - 48) + (f (p + 1).toNatClampNeg).toInt - 48 ∧ 10 * ((f p.toNatClampNeg).toInt - 48) + (f (p + 1).toNatClampNeg).toInt - 48 ≤ hi.toInt
      · rw [if_pos c3]
        show lo.toInt ≤ (10 * (f p.toNatClampNeg - 48) + f (p + 1).toNatClampNeg - 48).toInt ∧ (10 * (f p.toNatClampNeg - 48) + f (p + 1).toNatClampNeg - 48).toInt ≤ hi.toInt
        rw [d2]
        exact c3
      · rw [if_neg c3] at h
        cases h
    · rw [if_neg c2] at h ⊢
      by_cases c3 : lo.toInt ≤ (f p.toNatClampNeg).toInt - 48 ∧ (f p.toNatClampNeg).toInt - 48 ≤ hi.toInt
      · rw [if_pos c3]
        show lo.toInt ≤ (f p.toNatClampNeg - 48).toInt ∧ (f p.toNatClampNeg - 48).toInt ≤ hi.toInt
        rw [d1]
        exact c3
      · rw [if_neg c3] at h
        cases h
  · rw [if_neg c1] at h
    cases h
theorem sg_b {f : Nat → Int32} {L p : Int32} (h : (sg f L p).1 = true) : -99 ≤ (sg f L p).2.2.toInt ∧ (sg f L p).2.2.toInt ≤ 99 := by
  have b := num_b (f := f) (L := L) (p := (tk f L p 45).2) (lo := 0) (hi := 99) h
  have e0 : (0 : Int32).toInt = 0 := by decide
  have e9 : (99 : Int32).toInt = 99 := by decide
  rw [e0, e9] at b
  show -99 ≤ (if (tk f L p 45).1 = true then -(num f L (tk f L p 45).2 0 99).2.2 else (num f L (tk f L p 45).2 0 99).2.2).toInt ∧ _
  by_cases c : (tk f L p 45).1 = true
  · have n1 : (-(num f L (tk f L p 45).2 0 99).2.2).toInt = -(num f L (tk f L p 45).2 0 99).2.2.toInt := tI_neg rfl (by omega)
    have e : (sg f L p).2.2 = -(num f L (tk f L p 45).2 0 99).2.2 := if_pos c
    rw [if_pos c, e, n1]
    omega
  · have e : (sg f L p).2.2 = (num f L (tk f L p 45).2 0 99).2.2 := if_neg c
    rw [if_neg c, e]
    omega
/-- a line that could be read begins there -/
def okL (f : Nat → Int32) (L : Int32) (w : Int) (p : Int32) : Prop := ∃ H S C : Int, (lin f L p H S C).1 = true ∧ (f p.toNatClampNeg).toInt = w
theorem okL_h {f : Nat → Int32} {L p : Int32} (q : okL f L 104 p) : (hA f L p).1 = true ∧ (hC f L p).1 = true ∧ (hE f L p).1 = true ∧ (hG f L p).1 = true := by
  obtain ⟨H, S, C, h, e⟩ := q
  rw [lin_h (lin_lt h) e] at h
  by_cases h0 : 16 ≤ H
  · rw [hol_0 h0] at h
    cases h
  by_cases h1 : ¬ (hA f L p).1 = true
  · rw [hol_1 h0 h1] at h
    cases h
  have h1 := Classical.not_not.mp h1
  by_cases h2 : ¬ (hB f L p).1 = true
  · rw [hol_2 h0 h1 h2] at h
    cases h
  have h2 := Classical.not_not.mp h2
  by_cases h3 : ¬ (hC f L p).1 = true
  · rw [hol_3 h0 h1 h2 h3] at h
    cases h
  have h3 := Classical.not_not.mp h3
  by_cases h4 : ¬ (hD f L p).1 = true
  · rw [hol_4 h0 h1 h2 h3 h4] at h
    cases h
  have h4 := Classical.not_not.mp h4
  by_cases h5 : ¬ (hE f L p).1 = true
  · rw [hol_5 h0 h1 h2 h3 h4 h5] at h
    cases h
  have h5 := Classical.not_not.mp h5
  by_cases h6 : ¬ (hF f L p).1 = true
  · rw [hol_6 h0 h1 h2 h3 h4 h5 h6] at h
    cases h
  have h6 := Classical.not_not.mp h6
  rw [hol_7 h0 h1 h2 h3 h4 h5 h6] at h
  exact ⟨h1, h3, h5, h⟩
theorem okL_s {f : Nat → Int32} {L p : Int32} (q : okL f L 115 p) : (pA f L p).1 = true ∧ (pC f L p).1 = true := by
  obtain ⟨H, S, C, h, e⟩ := q
  rw [lin_s (lin_lt h) e] at h
  by_cases h0 : 6 ≤ S
  · rw [spd_0 h0] at h
    cases h
  by_cases h1 : ¬ (pA f L p).1 = true
  · rw [spd_1 h0 h1] at h
    cases h
  have h1 := Classical.not_not.mp h1
  by_cases h2 : ¬ (pB f L p).1 = true
  · rw [spd_2 h0 h1 h2] at h
    cases h
  have h2 := Classical.not_not.mp h2
  rw [spd_3 h0 h1 h2] at h
  exact ⟨h1, h⟩
theorem okL_c {f : Nat → Int32} {L p : Int32} (q : okL f L 99 p) : (cA f L p).1 = true := by
  obtain ⟨H, S, C, h, e⟩ := q
  rw [lin_c (lin_lt h) e] at h
  by_cases h0 : 8 ≤ C
  · rw [cog_0 h0] at h
    cases h
  rw [cog_1 h0] at h
  exact h
theorem okL_nx {f : Nat → Int32} {L p : Int32} {w h0 H : Int} {H2 S2 C2 : Int} {a : Nat → Int32} (hl : (lin f L p H2 S2 C2).1 = true) (h : ∀ j : Nat, h0 ≤ (j : Int) → (j : Int) < H → okL f L w (a j)) (hH : 0 ≤ H) : ∀ j : Nat, h0 ≤ (j : Int) → (j : Int) < H + dl w f p → okL f L w (nx w f p H a j) := by
  intro j j1 j2
  unfold nx
  by_cases e : (f p.toNatClampNeg).toInt = w
  · rw [dl_1 e] at j2
    rw [if_pos e]
    by_cases ej : j = H.toNat
    · rw [ej, upd_at]
      exact ⟨H2, S2, C2, hl, e⟩
    · rw [upd_off ej]
      exact h j j1 (by omega)
  · rw [dl_0 e] at j2
    rw [if_neg e]
    exact h j j1 (by omega)
theorem run_ok_h {f : Nat → Int32} {L : Int32} {h0 : Int} : ∀ (n : Nat) (p : Int32) (H S C k : Int) (a b d : Nat → Int32), 0 ≤ H → (∀ j : Nat, h0 ≤ (j : Int) → (j : Int) < H → okL f L 104 (a j)) → ∀ j : Nat, h0 ≤ (j : Int) → (j : Int) < (run f L n p H S C k a b d).2.2.2.1 → okL f L 104 ((run f L n p H S C k a b d).2.2.2.2.2.2.1 j)
  | 0, _, _, _, _, _, _, _, _, _, h => h
  | n + 1, p, H, S, C, k, a, b, d, h00, h => by
    have dg : 0 ≤ dl 104 f p := dl_ge
    by_cases hy : (lin f L p H S C).1 = true
    · have h1 := okL_nx hy h h00
      by_cases ht : (tk f L (lin f L p H S C).2 59).1 = true
      · have e : run f L (n + 1) p H S C k a b d = run f L n (tk f L (lin f L p H S C).2 59).2 (H + dl 104 f p) (S + dl 115 f p) (C + dl 99 f p) (k + 1) (nx 104 f p H a) (nx 115 f p S b) (nx 99 f p C d) := by
          show (if (lin f L p H S C).1 = true then (if (tk f L (lin f L p H S C).2 59).1 = true then _ else _) else _ : RR9) = _
          rw [if_pos hy, if_pos ht]
        rw [e]
        exact run_ok_h n _ _ _ _ _ _ _ _ (by omega) h1
      · have e : run f L (n + 1) p H S C k a b d = (true, (tk f L (lin f L p H S C).2 59).2, k + 1, H + dl 104 f p, S + dl 115 f p, C + dl 99 f p, nx 104 f p H a, nx 115 f p S b, nx 99 f p C d) := by
          show (if (lin f L p H S C).1 = true then (if (tk f L (lin f L p H S C).2 59).1 = true then _ else _) else _ : RR9) = _
          rw [if_pos hy, if_neg ht]
        rw [e]
        exact h1
    · have e : run f L (n + 1) p H S C k a b d = (false, (lin f L p H S C).2, k, H, S, C, a, b, d) := by
        show (if (lin f L p H S C).1 = true then (if (tk f L (lin f L p H S C).2 59).1 = true then _ else _) else _ : RR9) = _
        rw [if_neg hy]
      rw [e]
      exact h
theorem run_ge_h {f : Nat → Int32} {L : Int32} : ∀ (n : Nat) (p : Int32) (H S C k : Int) (a b d : Nat → Int32), H ≤ (run f L n p H S C k a b d).2.2.2.1
  | 0, _, _, _, _, _, _, _, _ => Int.le_refl _
  | n + 1, p, H, S, C, k, a, b, d => by
    show H ≤ (if (lin f L p H S C).1 = true then (if (tk f L (lin f L p H S C).2 59).1 = true then _ else _) else _ : RR9).2.2.2.1
    have h0 : 0 ≤ dl 104 f p := dl_ge
    by_cases hy : (lin f L p H S C).1 = true
    · rw [if_pos hy]
      by_cases ht : (tk f L (lin f L p H S C).2 59).1 = true
      · rw [if_pos ht]
        exact Int.le_trans (by omega) (run_ge_h n _ _ _ _ _ _ _ _)
      · rw [if_neg ht]
        show H ≤ H + dl 104 f p
        omega
    · rw [if_neg hy]
      exact Int.le_refl _
theorem run0_h {f : Nat → Int32} {L : Int32} {h s c : Int} (h0 : 0 ≤ h) : ∀ j : Nat, h ≤ (j : Int) → (j : Int) < (run0 f L h s c).2.2.2.1 → okL f L 104 ((run0 f L h s c).2.2.2.2.2.2.1 j) := run_ok_h 60 0 h s c 0 zf zf zf h0 (fun j a b => absurd b (by omega))
theorem run_ok_s {f : Nat → Int32} {L : Int32} {h0 : Int} : ∀ (n : Nat) (p : Int32) (H S C k : Int) (a b d : Nat → Int32), 0 ≤ S → (∀ j : Nat, h0 ≤ (j : Int) → (j : Int) < S → okL f L 115 (b j)) → ∀ j : Nat, h0 ≤ (j : Int) → (j : Int) < (run f L n p H S C k a b d).2.2.2.2.1 → okL f L 115 ((run f L n p H S C k a b d).2.2.2.2.2.2.2.1 j)
  | 0, _, _, _, _, _, _, _, _, _, h => h
  | n + 1, p, H, S, C, k, a, b, d, h00, h => by
    have dg : 0 ≤ dl 115 f p := dl_ge
    by_cases hy : (lin f L p H S C).1 = true
    · have h1 := okL_nx hy h h00
      by_cases ht : (tk f L (lin f L p H S C).2 59).1 = true
      · have e : run f L (n + 1) p H S C k a b d = run f L n (tk f L (lin f L p H S C).2 59).2 (H + dl 104 f p) (S + dl 115 f p) (C + dl 99 f p) (k + 1) (nx 104 f p H a) (nx 115 f p S b) (nx 99 f p C d) := by
          show (if (lin f L p H S C).1 = true then (if (tk f L (lin f L p H S C).2 59).1 = true then _ else _) else _ : RR9) = _
          rw [if_pos hy, if_pos ht]
        rw [e]
        exact run_ok_s n _ _ _ _ _ _ _ _ (by omega) h1
      · have e : run f L (n + 1) p H S C k a b d = (true, (tk f L (lin f L p H S C).2 59).2, k + 1, H + dl 104 f p, S + dl 115 f p, C + dl 99 f p, nx 104 f p H a, nx 115 f p S b, nx 99 f p C d) := by
          show (if (lin f L p H S C).1 = true then (if (tk f L (lin f L p H S C).2 59).1 = true then _ else _) else _ : RR9) = _
          rw [if_pos hy, if_neg ht]
        rw [e]
        exact h1
    · have e : run f L (n + 1) p H S C k a b d = (false, (lin f L p H S C).2, k, H, S, C, a, b, d) := by
        show (if (lin f L p H S C).1 = true then (if (tk f L (lin f L p H S C).2 59).1 = true then _ else _) else _ : RR9) = _
        rw [if_neg hy]
      rw [e]
      exact h
theorem run_ge_s {f : Nat → Int32} {L : Int32} : ∀ (n : Nat) (p : Int32) (H S C k : Int) (a b d : Nat → Int32), S ≤ (run f L n p H S C k a b d).2.2.2.2.1
  | 0, _, _, _, _, _, _, _, _ => Int.le_refl _
  | n + 1, p, H, S, C, k, a, b, d => by
    show S ≤ (if (lin f L p H S C).1 = true then (if (tk f L (lin f L p H S C).2 59).1 = true then _ else _) else _ : RR9).2.2.2.2.1
    have h0 : 0 ≤ dl 115 f p := dl_ge
    by_cases hy : (lin f L p H S C).1 = true
    · rw [if_pos hy]
      by_cases ht : (tk f L (lin f L p H S C).2 59).1 = true
      · rw [if_pos ht]
        exact Int.le_trans (by omega) (run_ge_s n _ _ _ _ _ _ _ _)
      · rw [if_neg ht]
        show S ≤ S + dl 115 f p
        omega
    · rw [if_neg hy]
      exact Int.le_refl _
theorem run0_s {f : Nat → Int32} {L : Int32} {h s c : Int} (h0 : 0 ≤ s) : ∀ j : Nat, s ≤ (j : Int) → (j : Int) < (run0 f L h s c).2.2.2.2.1 → okL f L 115 ((run0 f L h s c).2.2.2.2.2.2.2.1 j) := run_ok_s 60 0 h s c 0 zf zf zf h0 (fun j a b => absurd b (by omega))
theorem run_ok_c {f : Nat → Int32} {L : Int32} {h0 : Int} : ∀ (n : Nat) (p : Int32) (H S C k : Int) (a b d : Nat → Int32), 0 ≤ C → (∀ j : Nat, h0 ≤ (j : Int) → (j : Int) < C → okL f L 99 (d j)) → ∀ j : Nat, h0 ≤ (j : Int) → (j : Int) < (run f L n p H S C k a b d).2.2.2.2.2.1 → okL f L 99 ((run f L n p H S C k a b d).2.2.2.2.2.2.2.2 j)
  | 0, _, _, _, _, _, _, _, _, _, h => h
  | n + 1, p, H, S, C, k, a, b, d, h00, h => by
    have dg : 0 ≤ dl 99 f p := dl_ge
    by_cases hy : (lin f L p H S C).1 = true
    · have h1 := okL_nx hy h h00
      by_cases ht : (tk f L (lin f L p H S C).2 59).1 = true
      · have e : run f L (n + 1) p H S C k a b d = run f L n (tk f L (lin f L p H S C).2 59).2 (H + dl 104 f p) (S + dl 115 f p) (C + dl 99 f p) (k + 1) (nx 104 f p H a) (nx 115 f p S b) (nx 99 f p C d) := by
          show (if (lin f L p H S C).1 = true then (if (tk f L (lin f L p H S C).2 59).1 = true then _ else _) else _ : RR9) = _
          rw [if_pos hy, if_pos ht]
        rw [e]
        exact run_ok_c n _ _ _ _ _ _ _ _ (by omega) h1
      · have e : run f L (n + 1) p H S C k a b d = (true, (tk f L (lin f L p H S C).2 59).2, k + 1, H + dl 104 f p, S + dl 115 f p, C + dl 99 f p, nx 104 f p H a, nx 115 f p S b, nx 99 f p C d) := by
          show (if (lin f L p H S C).1 = true then (if (tk f L (lin f L p H S C).2 59).1 = true then _ else _) else _ : RR9) = _
          rw [if_pos hy, if_neg ht]
        rw [e]
        exact h1
    · have e : run f L (n + 1) p H S C k a b d = (false, (lin f L p H S C).2, k, H, S, C, a, b, d) := by
        show (if (lin f L p H S C).1 = true then (if (tk f L (lin f L p H S C).2 59).1 = true then _ else _) else _ : RR9) = _
        rw [if_neg hy]
      rw [e]
      exact h
theorem run_ge_c {f : Nat → Int32} {L : Int32} : ∀ (n : Nat) (p : Int32) (H S C k : Int) (a b d : Nat → Int32), C ≤ (run f L n p H S C k a b d).2.2.2.2.2.1
  | 0, _, _, _, _, _, _, _, _ => Int.le_refl _
  | n + 1, p, H, S, C, k, a, b, d => by
    show C ≤ (if (lin f L p H S C).1 = true then (if (tk f L (lin f L p H S C).2 59).1 = true then _ else _) else _ : RR9).2.2.2.2.2.1
    have h0 : 0 ≤ dl 99 f p := dl_ge
    by_cases hy : (lin f L p H S C).1 = true
    · rw [if_pos hy]
      by_cases ht : (tk f L (lin f L p H S C).2 59).1 = true
      · rw [if_pos ht]
        exact Int.le_trans (by omega) (run_ge_c n _ _ _ _ _ _ _ _)
      · rw [if_neg ht]
        show C ≤ C + dl 99 f p
        omega
    · rw [if_neg hy]
      exact Int.le_refl _
theorem run0_c {f : Nat → Int32} {L : Int32} {h s c : Int} (h0 : 0 ≤ c) : ∀ j : Nat, c ≤ (j : Int) → (j : Int) < (run0 f L h s c).2.2.2.2.2.1 → okL f L 99 ((run0 f L h s c).2.2.2.2.2.2.2.2 j) := run_ok_c 60 0 h s c 0 zf zf zf h0 (fun j a b => absurd b (by omega))
theorem CN.up {N : Int32} {f : Nat → Int32} {L : Int32} {v h s c h2 s2 c2 : Int} (A : CN N (run0 f L h s c) v h s c h2 s2 c2) : (h ≤ h2 ∧ h2 ≤ (run0 f L h s c).2.2.2.1) ∧ (s ≤ s2 ∧ s2 ≤ (run0 f L h s c).2.2.2.2.1) ∧ (c ≤ c2 ∧ c2 ≤ (run0 f L h s c).2.2.2.2.2.1) := by
  obtain ⟨-, -, -, a4, a5⟩ := A
  have g1 : h ≤ (run0 f L h s c).2.2.2.1 := run_ge_h 60 0 h s c 0 zf zf zf
  have g2 : s ≤ (run0 f L h s c).2.2.2.2.1 := run_ge_s 60 0 h s c 0 zf zf zf
  have g3 : c ≤ (run0 f L h s c).2.2.2.2.2.1 := run_ge_c 60 0 h s c 0 zf zf zf
  by_cases o : okR N (run0 f L h s c)
  · have e := a4 o
    omega
  · have e := a5 o
    omega
