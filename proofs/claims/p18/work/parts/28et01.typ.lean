/-! what the typed worlds tell -/
theorem WT.longs {G : KG} {ad : Nat → Nat} {T : List TE} {ws : va_W} (h : WT G ad T ws) {k n : Nat} {t : VT} (hT : T[k]? = some (.inr (1, n, t))) : ∃ f, ws[k]? = some (ad k, aJ G n f) ∧ True := by
  obtain ⟨en, h1, h2⟩ := h.arr hT
  rcases h2 with ⟨h9, -⟩ | ⟨-, f, rfl⟩ | ⟨h9, -⟩ | ⟨h9, -⟩
  · cases h9
  · exact ⟨f, h1, trivial⟩
  · cases h9
  · cases h9
theorem fint_b {G : KG} {ad : Nat → Nat} {T : List TE} {w0 : va_W} (hW : WT G ad T w0) {k ci j : Nat} {ts : List VT} {a b : Int} {x : Int32} (hT : T[k]? = some (.inl (ci, ts))) (ht : ts[j]? = some (0, a, b)) (e : fget w0 k j = some (.int x)) : a ≤ x.toInt ∧ x.toInt ≤ b := by
  obtain ⟨fs, v, h1, h2, h3, h4⟩ := WT.obj hW hT ht
  rw [fget_of h1] at e
  have e : fs[j]? = some (.int x) := e
  rw [h3] at e
  obtain rfl := Option.some.inj e
  obtain ⟨y, e2, l1, u1⟩ := vty0 h4 rfl
  obtain rfl := Value.int.inj e2
  exact ⟨l1, u1⟩
theorem ref_pfx {G : KG} {ad : Nat → Nat} {w0 : va_W} (hW : WT G ad TM w0) {k n c : Nat} {a b : Int} {x : Int32} {f : Nat → Int32} (hT : TM[k]? = some (.inr (0, n, (c, a, b)))) (hc : 2 ≤ c) (h1 : pkd c ≤ 1) (e : fget w0 (pcl c) (pfl c) = some (.int x)) (ef : cget w0 k 0 = some (.inr (cyI G, n, .inl f))) : ∀ j : Nat, j < n → (j : Int) < x.toInt → ((pkd c : Nat) : Int) ≤ (f j).toInt := by
  intro j hj hx
  obtain ⟨g, g1, -⟩ := WT.ints hW hT
  obtain rfl := arrinj (ef.symm.trans (cgetI g1 0))
  rcases hW.2.2 k n (c, a, b) _ _ _ j hT hc g1 e hj with ⟨-, q⟩ | ⟨q, -⟩
  · exact q hx
  · exact absurd h1 (by show ¬ pkd c ≤ 1; have q : 2 ≤ pkd c := q; omega)
theorem ref_plane {G : KG} {ad : Nat → Nat} {w0 : va_W} (hW : WT G ad TM w0) {h : Int32} {f : Nat → Int32} (eh : fget w0 0 3 = some (.int h)) (ef : cget w0 2 0 = some (.inr (cyI G, 16, .inl f))) : ∀ j : Nat, (j : Int) < h.toInt → 0 ≤ (f j).toInt ∧ (f j).toInt ≤ 1 := by
  intro j hj
  have b := fint_b hW (k := 0) (j := 3) (a := 0) (b := 16) rfl rfl eh
  obtain ⟨g, g1, g2⟩ := WT.ints hW (k := 2) rfl
  obtain rfl := arrinj (ef.symm.trans (cgetI g1 0))
  exact ⟨ref_pfx hW (k := 2) (n := 16) (c := 14) rfl (by decide) (by decide) eh ef j (by omega) hj, (g2 j (by omega)).2.1⟩
theorem ref_factor {G : KG} {ad : Nat → Nat} {w0 : va_W} (hW : WT G ad TM w0) {s : Int32} {f : Nat → Int32} (es : fget w0 0 10 = some (.int s)) (ef : cget w0 8 0 = some (.inr (cyI G, 6, .inl f))) : ∀ j : Nat, (j : Int) < s.toInt → 1 ≤ (f j).toInt := by
  intro j hj
  have b := fint_b hW (k := 0) (j := 10) (a := 0) (b := 6) rfl rfl es
  exact ref_pfx hW (k := 8) (n := 6) (c := 43) rfl (by decide) (by decide) es ef j (by omega) hj
theorem ref_cross {G : KG} {ad : Nat → Nat} {w0 : va_W} (hW : WT G ad TM w0) {f : Nat → Int32} (ef : cget w0 15 0 = some (.inr (cyI G, 4, .inl f))) : ∀ j : Nat, j < 4 → -9 ≤ (f j).toInt ∧ (f j).toInt ≤ 9 := by
  intro j hj
  obtain ⟨g, g1, g2⟩ := WT.ints hW (k := 15) rfl
  obtain rfl := arrinj (ef.symm.trans (cgetI g1 0))
  exact ⟨(g2 j hj).1, (g2 j hj).2.1⟩
theorem mwx_wt {G : KG} {y : Nat} {wm : va_W} (h : MWx G y wm) : ∃ ad, WT G ad TM wm := by
  obtain ⟨ad, -, h⟩ := h
  exact ⟨ad, h⟩
