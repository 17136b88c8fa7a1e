/-! calls, from a link and a contract -/
theorem cok_v {l : Launch} {G : KG} {own : String} {T : List TE} {idx mx : Nat} {Cn : String} {y : MethodName} {cy : ByteArray} {rt : Option FieldType} {n ci : Nat} {C : CE} {t : VT} {ts : List VT} {vc : vw_C} (hL : LkV own idx Cn y cy mx rt n) (hA : ACt l G T y cy mx rt C) (h1 : C.1.length = n + 1) (h2 : C.1[0]? = some t) (h3 : t.1 = 2) (hT : T[t.2.1.toNat]? = some (.inl (ci, ts))) (hv : vwCl[ci]? = some vc) (hn : vc.1 = Cn) : COK l G own T (idx, 0, mx, C) := Or.inl ⟨rfl, Cn, y, cy, rt, n, _, ci, ts, t, vc, Or.inl hL, hA, h1, h2, h3, rfl, hT, hv, hn⟩
theorem cok_vn {l : Launch} {G : KG} {own : String} {T : List TE} {idx mx : Nat} {Cn : String} {y : MethodName} {cy : ByteArray} {rt : Option FieldType} {n ci : Nat} {C : CE} {t : VT} {ts : List VT} {vc : vw_C} (hL : LnV own idx Cn y cy mx rt n) (hA : ACt l G T y cy mx rt C) (h1 : C.1.length = n + 1) (h2 : C.1[0]? = some t) (h3 : t.1 = 2) (hT : T[t.2.1.toNat]? = some (.inl (ci, ts))) (hv : vwCl[ci]? = some vc) (hn : vc.1 = Cn) : COK l G own T (idx, 0, mx, C) := Or.inl ⟨rfl, Cn, y, cy, rt, n, _, ci, ts, t, vc, Or.inr hL, hA, h1, h2, h3, rfl, hT, hv, hn⟩
theorem cok_s {l : Launch} {G : KG} {own : String} {T : List TE} {idx mx : Nat} {y : MethodName} {cy : ByteArray} {rt : Option FieldType} {n : Nat} {C : CE} (hL : LkS own idx y cy mx rt n) (hA : ACt l G T y cy mx rt C) (h1 : C.1.length = n) : COK l G own T (idx, 1, mx, C) := Or.inr (Or.inl ⟨rfl, y, cy, rt, n, Or.inl hL, hA, h1⟩)
theorem cok_sn {l : Launch} {G : KG} {own : String} {T : List TE} {idx mx : Nat} {y : MethodName} {cy : ByteArray} {rt : Option FieldType} {n : Nat} {C : CE} (hL : LnS own idx y cy mx rt n) (hA : ACt l G T y cy mx rt C) (h1 : C.1.length = n) : COK l G own T (idx, 1, mx, C) := Or.inr (Or.inl ⟨rfl, y, cy, rt, n, Or.inr hL, hA, h1⟩)
theorem cok_m {l : Launch} {G : KG} {own : String} {T : List TE} {idx mx : Nat} {C : CE} (h : MROW l G own T (idx, 1, mx, C)) : COK l G own T (idx, 1, mx, C) := Or.inr (Or.inr ⟨rfl, h⟩)
theorem post_pure {G : KG} {ad : Nat → Nat} {T : List TE} {C : CE} {μ : Nat → Value} {ws : va_W} {v : Value} {t : VT} {rl : ARl} (hA : ((some t, [], [], rl) : ALT) ∈ C.2.2.2.1) (hW : WT G ad T ws) (hv : vty ad t v) (hr : ∀ q ∈ rl, vI (nup μ 50 v q.1) ≤ vI (nup μ 50 v q.2.1) + q.2.2) : POST G ad T C μ ws (some v) ws :=
  ⟨_, hA, nup μ 50 v, fun i hi => nup_ne hi, fun i hi _ => if_neg (by omega), (show resOK ad (some t) (some v) (nup μ 50 v 50) from ⟨by rw [nup_eq], by rw [nup_eq]; exact hv⟩), fun q hq => absurd hq List.not_mem_nil, fun n q hq => (by have hq : ([] : List (Nat × Nat × VT))[n]? = some q := hq; simp at hq), hr, hW, rfl, fun k j _ => rfl⟩
abbrev C_mmin : CE := ([tI0, tI0], [], [], [(some tI0, [], [], [(50, 1, 0), (1, 50, 0), (1, 0, -1)]), (some tI0, [], [], [(50, 0, 0), (0, 50, 0), (0, 1, 0)])], [], 0, 0)
abbrev C_mmax : CE := ([tI0, tI0], [], [], [(some tI0, [], [], [(50, 1, 0), (1, 50, 0), (0, 1, -1)]), (some tI0, [], [], [(50, 0, 0), (0, 50, 0), (1, 0, 0)])], [], 0, 0)
abbrev C_mabs : CE := ([tI0], [], [], [(some tI0, [], [], [(50, 0, 0), (0, 50, 0)]), (some tI0, [], [], [])], [], 0, 1)
abbrev C_lmin : CE := ([tL0, tL0], [], [], [(some tL0, [], [], [(50, 1, 0), (1, 50, 0), (1, 0, -1)]), (some tL0, [], [], [(50, 0, 0), (0, 50, 0), (0, 1, 0)])], [], 0, 0)
abbrev C_lmax : CE := ([tL0, tL0], [], [], [(some tL0, [], [], [(50, 0, 0), (0, 50, 0), (1, 0, -1)]), (some tL0, [], [], [(50, 1, 0), (1, 50, 0), (0, 1, 0)])], [], 0, 0)
abbrev C_labs : CE := ([tL0], [], [], [(some tL0, [], [], [(50, 0, 0), (0, 50, 0)]), (some tL0, [], [], [])], [], 0, 0)
theorem rel3 {μ : Nat → Value} {a b c d u w : Nat} {c1 c2 c3 : Int} (h1 : vI (μ a) ≤ vI (μ b) + c1) (h2 : vI (μ c) ≤ vI (μ d) + c2) (h3 : vI (μ u) ≤ vI (μ w) + c3) : ∀ q ∈ [(a, b, c1), (c, d, c2), (u, w, c3)], vI (μ q.1) ≤ vI (μ q.2.1) + q.2.2 := by
  intro q hq
  rcases List.mem_cons.mp hq with e | hq
  · rw [e]; exact h1
  · rcases List.mem_cons.mp hq with e | hq
    · rw [e]; exact h2
    · rw [List.mem_singleton.mp hq]; exact h3
theorem row_mmin {l : Launch} {G : KG} {own : String} {T : List TE} {idx : Nat} (h1 : Cond.methodLink own idx Lib.Math.min.name ∈ BIG) (h2 : Cond.static Lib.Math.min.name ∈ BIG) (h3 : Cond.initialized "java/lang/Math" ∈ BIG) (h4 : Cond.code Lib.Math.min.name Lib.Math.min.code 2 (some .int) ∈ BIG) : MROW l G own T (idx, 1, 2, C_mmin) := by
  intro p e R s m args below meth c nL A Q cc ret nm kc ks pc ad X hdg hR1 hR2 hkc hks lw rest ws μ hcat hW hP kk
  obtain ⟨x, hx, -⟩ := vty0 (hP.1 0 _ rfl) rfl
  obtain ⟨y, hy, -⟩ := vty0 (hP.1 1 _ rfl) rfl
  have e0 : ((List.range (C_mmin).1.length).map μ).reverse ++ rest = .int y :: .int x :: rest := by
    show μ 1 :: μ 0 :: rest = _
    rw [hx, hy]
  rw [e0]
  have hR1 : 1 ≤ R.frames := hR1
  have hR2 : 8 + (2 + 11) + 0 ≤ R.locals := hR2
  have vx : ∀ v, vI (nup μ 50 v 0) = x.toInt := fun v => by rw [nup_ne (by decide), hx]; rfl
  have vy : ∀ v, vI (nup μ 50 v 1) = y.toInt := fun v => by rw [nup_ne (by decide), hy]; rfl
  have vr : ∀ v, vI (nup μ 50 v 50) = vI v := fun v => by rw [nup_eq]
  have hts := X.2.2.2.2.1
  intro H locs ls hP0 hD hS hl
  refine va_mmin X.1 X.2.1 (X.2.2.1.trans hl.1.symm) X.2.2.2.1 (hts _ h1) (hts _ h2) (hts _ h3) (hts _ h4) hR1 (by omega) hkc hks hdg ?_
  by_cases hc : y < x
  · rw [if_pos hc]
    have hc : y.toInt < x.toInt := Int32.lt_iff_toInt_lt.mp hc
    exact kk (some (.int y)) ws (post_pure List.mem_cons_self hW (vty_i0 _) (rel3 (by rw [vr, vy]; show (y).toInt ≤ _; omega) (by rw [vr, vy]; show _ ≤ (y).toInt + 0; omega) (by rw [vx, vy]; omega))) H locs ls hP0 hD hS hl
  · rw [if_neg hc]
    have hc : ¬ y.toInt < x.toInt := fun h => hc (Int32.lt_iff_toInt_lt.mpr h)
    exact kk (some (.int x)) ws (post_pure (List.mem_cons_of_mem _ List.mem_cons_self) hW (vty_i0 _) (rel3 (by rw [vr, vx]; show (x).toInt ≤ _; omega) (by rw [vr, vx]; show _ ≤ (x).toInt + 0; omega) (by rw [vx, vy]; omega))) H locs ls hP0 hD hS hl
theorem row_mmax {l : Launch} {G : KG} {own : String} {T : List TE} {idx : Nat} (h1 : Cond.methodLink own idx Lib.Math.max.name ∈ BIG) (h2 : Cond.static Lib.Math.max.name ∈ BIG) (h3 : Cond.initialized "java/lang/Math" ∈ BIG) (h4 : Cond.code Lib.Math.max.name Lib.Math.max.code 2 (some .int) ∈ BIG) : MROW l G own T (idx, 1, 2, C_mmax) := by
  intro p e R s m args below meth c nL A Q cc ret nm kc ks pc ad X hdg hR1 hR2 hkc hks lw rest ws μ hcat hW hP kk
  obtain ⟨x, hx, -⟩ := vty0 (hP.1 0 _ rfl) rfl
  obtain ⟨y, hy, -⟩ := vty0 (hP.1 1 _ rfl) rfl
  have e0 : ((List.range (C_mmax).1.length).map μ).reverse ++ rest = .int y :: .int x :: rest := by
    show μ 1 :: μ 0 :: rest = _
    rw [hx, hy]
  rw [e0]
  have hR1 : 1 ≤ R.frames := hR1
  have hR2 : 8 + (2 + 11) + 0 ≤ R.locals := hR2
  have vx : ∀ v, vI (nup μ 50 v 0) = x.toInt := fun v => by rw [nup_ne (by decide), hx]; rfl
  have vy : ∀ v, vI (nup μ 50 v 1) = y.toInt := fun v => by rw [nup_ne (by decide), hy]; rfl
  have vr : ∀ v, vI (nup μ 50 v 50) = vI v := fun v => by rw [nup_eq]
  have hts := X.2.2.2.2.1
  intro H locs ls hP0 hD hS hl
  refine va_mmax X.1 X.2.1 (X.2.2.1.trans hl.1.symm) X.2.2.2.1 (hts _ h1) (hts _ h2) (hts _ h3) (hts _ h4) hR1 (by omega) hkc hks hdg ?_
  by_cases hc : x < y
  · rw [if_pos hc]
    have hc : x.toInt < y.toInt := Int32.lt_iff_toInt_lt.mp hc
    exact kk (some (.int y)) ws (post_pure List.mem_cons_self hW (vty_i0 _) (rel3 (by rw [vr, vy]; show (y).toInt ≤ _; omega) (by rw [vr, vy]; show _ ≤ (y).toInt + 0; omega) (by rw [vx, vy]; omega))) H locs ls hP0 hD hS hl
  · rw [if_neg hc]
    have hc : ¬ x.toInt < y.toInt := fun h => hc (Int32.lt_iff_toInt_lt.mpr h)
    exact kk (some (.int x)) ws (post_pure (List.mem_cons_of_mem _ List.mem_cons_self) hW (vty_i0 _) (rel3 (by rw [vr, vx]; show (x).toInt ≤ _; omega) (by rw [vr, vx]; show _ ≤ (x).toInt + 0; omega) (by rw [vx, vy]; omega))) H locs ls hP0 hD hS hl
theorem row_lmin {l : Launch} {G : KG} {own : String} {T : List TE} {idx : Nat} (h1 : Cond.methodLink own idx Lib.MathLoose.min_long.x ∈ BIG) (h2 : Cond.static Lib.MathLoose.min_long.x ∈ BIG) (h3 : Cond.initialized "java/lang/Math" ∈ BIG) (h4 : Cond.code Lib.MathLoose.min_long.x Lib.MathLoose.min_long.code 4 (some .long) ∈ BIG) : MROW l G own T (idx, 1, 4, C_lmin) := by
  intro p e R s m args below meth c nL A Q cc ret nm kc ks pc ad X hdg hR1 hR2 hkc hks lw rest ws μ hcat hW hP kk
  obtain ⟨x, hx, -⟩ := vty1 (hP.1 0 _ rfl) rfl
  obtain ⟨y, hy, -⟩ := vty1 (hP.1 1 _ rfl) rfl
  have e0 : ((List.range (C_lmin).1.length).map μ).reverse ++ rest = .long y :: .long x :: rest := by
    show μ 1 :: μ 0 :: rest = _
    rw [hx, hy]
  rw [e0]
  have hR1 : 1 ≤ R.frames := hR1
  have hR2 : 8 + (4 + 11) + 0 ≤ R.locals := hR2
  have vx : ∀ v, vI (nup μ 50 v 0) = x.toInt := fun v => by rw [nup_ne (by decide), hx]; rfl
  have vy : ∀ v, vI (nup μ 50 v 1) = y.toInt := fun v => by rw [nup_ne (by decide), hy]; rfl
  have vr : ∀ v, vI (nup μ 50 v 50) = vI v := fun v => by rw [nup_eq]
  have hts := X.2.2.2.2.1
  intro H locs ls hP0 hD hS hl
  refine va_mmin_long X.1 X.2.1 (X.2.2.1.trans hl.1.symm) X.2.2.2.1 (hts _ h1) (hts _ h2) (hts _ h3) (hts _ h4) hR1 (by omega) hkc hks hdg ?_
  by_cases hc : y < x
  · rw [if_pos hc]
    have hc : y.toInt < x.toInt := Int64.lt_iff_toInt_lt.mp hc
    exact kk (some (.long y)) ws (post_pure List.mem_cons_self hW (vty_l0 _) (rel3 (by rw [vr, vy]; show (y).toInt ≤ _; omega) (by rw [vr, vy]; show _ ≤ (y).toInt + 0; omega) (by rw [vx, vy]; omega))) H locs ls hP0 hD hS hl
  · rw [if_neg hc]
    have hc : ¬ y.toInt < x.toInt := fun h => hc (Int64.lt_iff_toInt_lt.mpr h)
    exact kk (some (.long x)) ws (post_pure (List.mem_cons_of_mem _ List.mem_cons_self) hW (vty_l0 _) (rel3 (by rw [vr, vx]; show (x).toInt ≤ _; omega) (by rw [vr, vx]; show _ ≤ (x).toInt + 0; omega) (by rw [vx, vy]; omega))) H locs ls hP0 hD hS hl
theorem row_lmax {l : Launch} {G : KG} {own : String} {T : List TE} {idx : Nat} (h1 : Cond.methodLink own idx Lib.MathLoose.max_long.x ∈ BIG) (h2 : Cond.static Lib.MathLoose.max_long.x ∈ BIG) (h3 : Cond.initialized "java/lang/Math" ∈ BIG) (h4 : Cond.code Lib.MathLoose.max_long.x Lib.MathLoose.max_long.code 4 (some .long) ∈ BIG) : MROW l G own T (idx, 1, 4, C_lmax) := by
  intro p e R s m args below meth c nL A Q cc ret nm kc ks pc ad X hdg hR1 hR2 hkc hks lw rest ws μ hcat hW hP kk
  obtain ⟨x, hx, -⟩ := vty1 (hP.1 0 _ rfl) rfl
  obtain ⟨y, hy, -⟩ := vty1 (hP.1 1 _ rfl) rfl
  have e0 : ((List.range (C_lmax).1.length).map μ).reverse ++ rest = .long y :: .long x :: rest := by
    show μ 1 :: μ 0 :: rest = _
    rw [hx, hy]
  rw [e0]
  have hR1 : 1 ≤ R.frames := hR1
  have hR2 : 8 + (4 + 11) + 0 ≤ R.locals := hR2
  have vx : ∀ v, vI (nup μ 50 v 0) = x.toInt := fun v => by rw [nup_ne (by decide), hx]; rfl
  have vy : ∀ v, vI (nup μ 50 v 1) = y.toInt := fun v => by rw [nup_ne (by decide), hy]; rfl
  have vr : ∀ v, vI (nup μ 50 v 50) = vI v := fun v => by rw [nup_eq]
  have hts := X.2.2.2.2.1
  intro H locs ls hP0 hD hS hl
  refine va_mmax_long X.1 X.2.1 (X.2.2.1.trans hl.1.symm) X.2.2.2.1 (hts _ h1) (hts _ h2) (hts _ h3) (hts _ h4) hR1 (by omega) hkc hks hdg ?_
  by_cases hc : y < x
  · rw [if_pos hc]
    have hc : y.toInt < x.toInt := Int64.lt_iff_toInt_lt.mp hc
    exact kk (some (.long x)) ws (post_pure List.mem_cons_self hW (vty_l0 _) (rel3 (by rw [vr, vx]; show (x).toInt ≤ _; omega) (by rw [vr, vx]; show _ ≤ (x).toInt + 0; omega) (by rw [vx, vy]; omega))) H locs ls hP0 hD hS hl
  · rw [if_neg hc]
    have hc : ¬ y.toInt < x.toInt := fun h => hc (Int64.lt_iff_toInt_lt.mpr h)
    exact kk (some (.long y)) ws (post_pure (List.mem_cons_of_mem _ List.mem_cons_self) hW (vty_l0 _) (rel3 (by rw [vr, vy]; show (y).toInt ≤ _; omega) (by rw [vr, vy]; show _ ≤ (y).toInt + 0; omega) (by rw [vx, vy]; omega))) H locs ls hP0 hD hS hl
theorem row_mabs {l : Launch} {G : KG} {own : String} {T : List TE} {idx : Nat} (h1 : Cond.methodLink own idx Lib.Math.abs.name ∈ BIG) (h2 : Cond.static Lib.Math.abs.name ∈ BIG) (h3 : Cond.initialized "java/lang/Math" ∈ BIG) (h4 : Cond.code Lib.Math.abs.name Lib.Math.abs.code 1 (some .int) ∈ BIG) : MROW l G own T (idx, 1, 1, C_mabs) := by
  intro p e R s m args below meth c nL A Q cc ret nm kc ks pc ad X hdg hR1 hR2 hkc hks lw rest ws μ hcat hW hP kk
  obtain ⟨x, hx, -⟩ := vty0 (hP.1 0 _ rfl) rfl
  have e0 : ((List.range (C_mabs).1.length).map μ).reverse ++ rest = .int x :: rest := by
    show μ 0 :: rest = _
    rw [hx]
  rw [e0]
  have hR1 : 1 ≤ R.frames := hR1
  have hR2 : 8 + (1 + 11) + 1 ≤ R.locals := hR2
  have vx : ∀ v, vI (nup μ 50 v 0) = x.toInt := fun v => by rw [nup_ne (by decide), hx]; rfl
  have vr : ∀ v, vI (nup μ 50 v 50) = vI v := fun v => by rw [nup_eq]
  have hts := X.2.2.2.2.1
  have hcat : (rest.map fun v => v.category).sum + 13 ≤ R.locals := by omega
  intro H locs ls hP0 hD hS hl
  refine va_mabs X.1 X.2.1 (X.2.2.1.trans hl.1.symm) X.2.2.2.1 (hts _ h1) (hts _ h2) (hts _ h3) (hts _ h4) hR1 (by omega) hkc hks hdg ?_
  by_cases hc : 0 ≤ x
  · rw [if_pos hc]
    exact kk (some (.int x)) ws (post_pure List.mem_cons_self hW (vty_i0 _) (rel2 (by rw [vr, vx]; show x.toInt ≤ _; omega) (by rw [vr, vx]; show _ ≤ x.toInt + 0; omega))) H locs ls hP0 hD hS hl
  · rw [if_neg hc]
    exact kk (some (.int (0 - x))) ws (post_pure (List.mem_cons_of_mem _ List.mem_cons_self) hW (vty_i0 _) (fun q hq => by cases hq)) H locs ls hP0 hD hS hl
theorem row_labs {l : Launch} {G : KG} {own : String} {T : List TE} {idx : Nat} (h1 : Cond.methodLink own idx Lib.MathLoose.abs_long.x ∈ BIG) (h2 : Cond.static Lib.MathLoose.abs_long.x ∈ BIG) (h3 : Cond.initialized "java/lang/Math" ∈ BIG) (h4 : Cond.code Lib.MathLoose.abs_long.x Lib.MathLoose.abs_long.code 2 (some .long) ∈ BIG) : MROW l G own T (idx, 1, 2, C_labs) := by
  intro p e R s m args below meth c nL A Q cc ret nm kc ks pc ad X hdg hR1 hR2 hkc hks lw rest ws μ hcat hW hP kk
  obtain ⟨x, hx, -⟩ := vty1 (hP.1 0 _ rfl) rfl
  have e0 : ((List.range (C_labs).1.length).map μ).reverse ++ rest = .long x :: rest := by
    show μ 0 :: rest = _
    rw [hx]
  rw [e0]
  have hR1 : 1 ≤ R.frames := hR1
  have hR2 : 8 + (2 + 11) + 0 ≤ R.locals := hR2
  have vx : ∀ v, vI (nup μ 50 v 0) = x.toInt := fun v => by rw [nup_ne (by decide), hx]; rfl
  have vr : ∀ v, vI (nup μ 50 v 50) = vI v := fun v => by rw [nup_eq]
  have hts := X.2.2.2.2.1
  have hcat : (rest.map fun v => v.category).sum + 13 ≤ R.locals := by omega
  intro H locs ls hP0 hD hS hl
  refine va_mabs_long X.1 X.2.1 (X.2.2.1.trans hl.1.symm) X.2.2.2.1 (hts _ h1) (hts _ h2) (hts _ h3) (hts _ h4) hR1 (by omega) hkc hks hdg ?_
  by_cases hc : 0 < x
  · rw [if_pos hc]
    exact kk (some (.long x)) ws (post_pure List.mem_cons_self hW (vty_l0 _) (rel2 (by rw [vr, vx]; show x.toInt ≤ _; omega) (by rw [vr, vx]; show _ ≤ x.toInt + 0; omega))) H locs ls hP0 hD hS hl
  · rw [if_neg hc]
    exact kk (some (.long (-x))) ws (post_pure (List.mem_cons_of_mem _ List.mem_cons_self) hW (vty_l0 _) (fun q hq => by cases hq)) H locs ls hP0 hD hS hl
