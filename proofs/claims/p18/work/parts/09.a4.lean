/-! the world's fields and arrays; branches -/
theorem fget_of {ws : va_W} {k j a ci : Nat} {fs : List Value} (h : ws[k]? = some (a, .inr (ci, fs))) : fget ws k j = fs[j]? := by
  unfold fget
  rw [h]
theorem cget_of {ws : va_W} {k j a ci : Nat} {fs : List Value} (h : ws[k]? = some (a, .inr (ci, fs))) : cget ws k j = (fs[j]?).map Sum.inl := by
  unfold cget
  rw [h]
theorem lt_of_getE {α : Type} {l : List α} {k : Nat} {x : α} (h : l[k]? = some x) : k < l.length := (List.getElem?_eq_some_iff.mp h).1
theorem set_same {ws : va_W} {k : Nat} {q q' : Nat × va_E} (h : ws[k]? = some q) : (ws.set k q')[k]? = some q' := by
  rw [List.getElem?_set_self (lt_of_getE h)]
theorem set_other {ws : va_W} {k i : Nat} {q' : Nat × va_E} (h : k ≠ i) : (ws.set k q')[i]? = ws[i]? := List.getElem?_set_ne h
theorem fget_set {ws : va_W} {k j a ci k' j' : Nat} {fs : List Value} {v : Value} (h : ws[k]? = some (a, .inr (ci, fs))) (hn : ¬ (k' = k ∧ j' = j)) : fget (ws.set k (a, .inr (ci, fs.set j v))) k' j' = fget ws k' j' := by
  by_cases e : k' = k
  · subst e
    have hj : j ≠ j' := fun e => hn ⟨rfl, e.symm⟩
    rw [fget_of (set_same h), fget_of h, List.getElem?_set_ne hj]
  · unfold fget
    rw [set_other (fun h => e h.symm)]
theorem cget_set {ws : va_W} {k j a ci k' j' : Nat} {fs : List Value} {v : Value} (h : ws[k]? = some (a, .inr (ci, fs))) (hn : ¬ (k' = k ∧ j' = j)) : cget (ws.set k (a, .inr (ci, fs.set j v))) k' j' = cget ws k' j' := by
  by_cases e : k' = k
  · subst e
    have hj : j ≠ j' := fun e => hn ⟨rfl, e.symm⟩
    rw [cget_of (set_same h), cget_of h, List.getElem?_set_ne hj]
  · unfold cget
    rw [set_other (fun h => e h.symm)]
theorem cget_arr {ws : va_W} {k k' j' : Nat} {q' : Nat × va_E} (hn : k' ≠ k) : cget (ws.set k q') k' j' = cget ws k' j' := by
  unfold cget
  rw [set_other (fun h => hn h.symm)]
theorem fget_arr {ws : va_W} {k k' j' a : Nat} {x y : ClassId × vp_A} {v : Value} (h : ws[k]? = some (a, .inl x)) (hf : fget ws k' j' = some v) : fget (ws.set k (a, .inl y)) k' j' = some v := by
  by_cases e : k' = k
  · subst e
    unfold fget at hf
    rw [h] at hf
    cases hf
  · unfold fget
    rw [set_other (fun h => e h.symm)]
    exact hf
theorem mkq_arr {mk : List (Nat × Nat)} {k : Nat} (h : mk.any (fun q => Nat.beq q.1 k && Nat.beq q.2 999) = true) (j : Nat) : mkq mk k j = true := by
  unfold mkq
  obtain ⟨q, hq, h⟩ := List.any_eq_true.mp h
  refine List.any_eq_true.mpr ⟨q, hq, ?_⟩
  rw [Bool.and_eq_true] at h ⊢
  exact ⟨h.1, by rw [h.2, Bool.or_true]⟩
/-- within a type -/
def vsub (ev : AEv) (rl : ARl) (i : Nat) (t : VT) : Bool := Nat.beq (aty ev i).1 t.1 && (bif isNum t then decide (t.2.1 ≤ xlo ev rl i) && decide (xhi ev rl i ≤ t.2.2) else Nat.beq t.1 2 && decide (t.2.1 = (aty ev i).2.1))
def ain (ev : AEv) (rl : ARl) (i n : Nat) : Bool := decide (0 ≤ xlo ev rl i) && decide (xhi ev rl i < (n : Int))
section AZ2
variable {ZZ : ZZT} {G : KG} {ad : Nat → Nat} {T : List TE} {mk : List (Nat × Nat)} {w0 : va_W} {pin : List (Nat × Value)} {ν : Nat → Value} {ws : va_W}
variable {lv : ALv} {st : List Nat} {ev : AEv} {ca : ACa} {rl : ARl} {nx pc pc' : Nat}
theorem AK.sub (h : AK G ad T mk w0 pin (lv, st, ev, ca, rl, nx) ν ws) {i : Nat} {t : VT} (e : vsub ev rl i t = true) : vty ad t (ν i) := by
  unfold vsub at e
  rw [Bool.and_eq_true] at e
  obtain ⟨e1, e2⟩ := e
  have e1 : (aty ev i).1 = t.1 := Nat.eq_of_beq_eq_true e1
  cases hn : isNum t with
  | true =>
    rw [hn] at e2
    simp only [cond_true, Bool.and_eq_true, decide_eq_true_eq] at e2
    have h1 := h.lo2 i
    have h2 := h.hi2 i
    have ht : t.1 ≤ 1 := Nat.le_of_ble_eq_true hn
    have hq : vty ad (aty ev i) (ν i) := aty_of (ev := ev) h.2.1 e1 (by omega)
    rcases hq with ⟨q, q1, -⟩ | ⟨q, q1, -⟩ | ⟨q, -⟩ | ⟨q, -⟩
    · exact Or.inl ⟨by omega, q1, by omega, by omega⟩
    · exact Or.inr (Or.inl ⟨by omega, q1, by omega, by omega⟩)
    · omega
    · omega
  | false =>
    rw [hn] at e2
    simp only [cond_false, Bool.and_eq_true, decide_eq_true_eq] at e2
    have e3 : t.1 = 2 := Nat.eq_of_beq_eq_true e2.1
    refine Or.inr (Or.inr (Or.inl ⟨e3, ?_⟩))
    rw [e2.2]
    exact h.ref (e1.trans e3)
theorem AK.inr (h : AK G ad T mk w0 pin (lv, st, ev, ca, rl, nx) ν ws) {i n : Nat} (e : ain ev rl i n = true) {x : Int32} (hx : ν i = .int x) : vp_in x n ∧ x.toNatClampNeg < n := by
  unfold ain at e
  simp only [Bool.and_eq_true, decide_eq_true_eq] at e
  have h1 := h.lo2 i
  have h2 := h.hi2 i
  rw [hx] at h1 h2
  have h1 : xlo ev rl i ≤ x.toInt := h1
  have h2 : x.toInt ≤ xhi ev rl i := h2
  refine ⟨vin rfl (by omega) (by omega), ?_⟩
  have : (x.toNatClampNeg : Int) = x.toInt := by
    show ((x.toInt).toNat : Int) = x.toInt
    omega
  omega
theorem vin0 {x : Int32} {n : Nat} (h : vp_in x n) : 0 ≤ x.toInt := by
  rcases (by omega : x.toInt < 0 ∨ 0 ≤ x.toInt) with h1 | h1
  · exact absurd (Or.inl (Int32.lt_iff_toInt_lt.mpr h1)) h
  · exact h1
theorem WT.obj (h : WT G ad T ws) {k ci j : Nat} {ts : List VT} {t : VT} (hT : T[k]? = some (.inl (ci, ts))) (ht : ts[j]? = some t) : ∃ (fs : List Value) (v : Value), ws[k]? = some (ad k, ob ci fs) ∧ fs.length = ts.length ∧ fs[j]? = some v ∧ vty ad t v := by
  obtain ⟨en, h1, fs, rfl, h2, h3⟩ := h.2.1 k _ hT
  have hj : j < fs.length := by rw [h2]; exact lt_of_getE ht
  exact ⟨fs, fs[j], h1, h2, List.getElem?_eq_getElem hj, h3 j t _ ht (List.getElem?_eq_getElem hj)⟩
theorem fget_arr_eq {ws : va_W} {k k' j' a b : Nat} {x y : ClassId × vp_A} (h : ws[k]? = some (a, .inl x)) : fget (ws.set k (b, .inl y)) k' j' = fget ws k' j' := by
  by_cases e : k' = k
  · subst e
    unfold fget
    rw [set_same h, h]
  · unfold fget
    rw [set_other (fun h => e h.symm)]
theorem WT.setO (h : WT G ad T ws) {k ci j : Nat} {ts : List VT} {t : VT} {fs : List Value} {v : Value} (hT : T[k]? = some (.inl (ci, ts))) (ht : ts[j]? = some t) (hw : ws[k]? = some (ad k, ob ci fs)) (hv : vty ad t v) (hpf : ∀ (k' n : Nat) (t' : VT), T[k']? = some (.inr (0, n, t')) → 2 ≤ t'.1 → pcl t'.1 = k → pfl t'.1 = j → ∃ o x : Int32, fs[j]? = some (.int o) ∧ v = .int x ∧ pord t'.1 x.toInt o.toInt) : WT G ad T (ws.set k (ad k, ob ci (fs.set j v))) := by
  refine ⟨by rw [List.length_set]; exact h.1, fun k' te hT' => ?_, ?_⟩
  rotate_left
  · intro k' n t' a f c i hT' h2 hw' hf hi
    have hk : k' ≠ k := by
      intro e
      subst e
      rw [set_same hw] at hw'
      cases hw'
    rw [set_other (fun h => hk h.symm)] at hw'
    by_cases e : pcl t'.1 = k ∧ pfl t'.1 = j
    · obtain ⟨o, x, o1, rfl, o2⟩ := hpf k' n t' hT' h2 e.1 e.2
      rw [e.1, e.2, fget_of (set_same hw), List.getElem?_set_self (lt_of_getE o1)] at hf
      cases hf
      exact (h.2.2 k' n t' a f o i hT' h2 hw' (by rw [e.1, e.2, fget_of hw]; exact o1) hi).mono o2
    · rw [fget_set hw e] at hf
      exact h.2.2 k' n t' a f c i hT' h2 hw' hf hi
  by_cases e : k' = k
  · subst e
    rw [hT] at hT'
    cases hT'
    obtain ⟨en, h1, fs', rfl, h2, h3⟩ := h.2.1 k' _ hT
    rw [hw] at h1
    cases h1
    refine ⟨_, set_same hw, _, rfl, by rw [List.length_set]; exact h2, fun j' t' v' ht' hv' => ?_⟩
    by_cases e : j' = j
    · subst e
      rw [ht] at ht'
      cases ht'
      have hj : j' < fs.length := by rw [h2]; exact lt_of_getE ht
      rw [List.getElem?_set_self hj] at hv'
      cases hv'
      exact hv
    · rw [List.getElem?_set_ne (fun h => e h.symm)] at hv'
      exact h3 j' t' v' ht' hv'
  · obtain ⟨en, h1, h2⟩ := h.2.1 k' te hT'
    exact ⟨en, by rw [set_other (fun h => e h.symm)]; exact h1, h2⟩
theorem WT.setA (h : WT G ad T ws) {k : Nat} {te : TE} {x y : ClassId × vp_A} (hT : T[k]? = some te) (hw : ws[k]? = some (ad k, .inl x)) (hv : ety G ad te (.inl y)) (hpa : ∀ (n : Nat) (t : VT), te = .inr (0, n, t) → 2 ≤ t.1 → ∀ (f : Nat → Int32) (c : Int32) (i : Nat), (Sum.inl y : va_E) = aI G n f → fget ws (pcl t.1) (pfl t.1) = some (.int c) → i < n → PP t.1 i (f i).toInt c.toInt) : WT G ad T (ws.set k (ad k, .inl y)) := by
  refine ⟨by rw [List.length_set]; exact h.1, fun k' te' hT' => ?_, ?_⟩
  rotate_left
  · intro k' n t' a f c i hT' h2 hw' hf hi
    rw [fget_arr_eq hw] at hf
    by_cases e : k' = k
    · subst e
      rw [set_same hw] at hw'
      rw [hT] at hT'
      exact hpa n t' (Option.some.inj hT') h2 f c i (congrArg Prod.snd (Option.some.inj hw')) hf hi
    · rw [set_other (fun h => e h.symm)] at hw'
      exact h.2.2 k' n t' a f c i hT' h2 hw' hf hi
  by_cases e : k' = k
  · subst e
    rw [hT] at hT'
    cases hT'
    exact ⟨_, set_same hw, hv⟩
  · obtain ⟨en, h1, h2⟩ := h.2.1 k' te' hT'
    exact ⟨en, by rw [set_other (fun h => e h.symm)]; exact h1, h2⟩
theorem az_get {r j ci : Nat} {ts : List VT} {t : VT} (hr : (aty ev r).1 = 2) (hT : T[(aty ev r).2.1.toNat]? = some (.inl (ci, ts))) (ht : ts[j]? = some t) (hf : afr (lv, r :: st, ev, ca, rl, nx) = true)
    (row : ∀ (a : Nat) (fs : List Value) (v : Value) (lw : List (Nat × Value)) (rest : List Value) (ws : va_W), ws[(aty ev r).2.1.toNat]? = some (a, ob ci fs) → fs[j]? = some v → ZZ pc' lw (v :: rest) ws → ZZ pc lw (.ref a :: rest) ws)
    (k : AZ ZZ G ad T mk w0 pin (lv, nx :: st, (nx, t) :: ev, ((aty ev r).2.1.toNat, j, nx) :: ca, rl, nx + 1) pc') : AZ ZZ G ad T mk w0 pin (lv, r :: st, ev, ca, rl, nx) pc := by
  intro ν lw sw ws h
  obtain ⟨h1, h2, h3⟩ := h
  have h3 : AK G ad T mk w0 pin (lv, st, ev, ca, rl, nx) ν ws := h3
  have h2' : sw = ν r :: st.map ν := h2
  obtain ⟨fs, v, q1, q2, q3, q4⟩ := h3.2.2.2.2.2.1.obj hT ht
  rw [h2', h3.ref hr]
  obtain ⟨g1, g2, g3⟩ := AG.push (st := st) (nr := []) (v := v) (t := t) ⟨h1, rfl, h3⟩ (afr_pop hf) q4 (fun q hq => by cases hq)
  refine row _ fs v lw _ ws q1 q3 (k _ _ _ _ ⟨g1, g2, g3.1, g3.2.1, fun q hq => ?_, g3.2.2.2⟩)
  rcases List.mem_cons.mp hq with e | hq
  · rw [e]
    show fget ws _ j = some (nup ν nx v nx)
    rw [nup_eq, fget_of q1]
    exact q3
  · exact g3.2.2.1 q hq
theorem az_getc {r j ci i : Nat} {ts : List VT} {t : VT} (hr : (aty ev r).1 = 2) (hT : T[(aty ev r).2.1.toNat]? = some (.inl (ci, ts))) (ht : ts[j]? = some t) (hc : ((aty ev r).2.1.toNat, j, i) ∈ ca)
    (row : ∀ (a : Nat) (fs : List Value) (v : Value) (lw : List (Nat × Value)) (rest : List Value) (ws : va_W), ws[(aty ev r).2.1.toNat]? = some (a, ob ci fs) → fs[j]? = some v → ZZ pc' lw (v :: rest) ws → ZZ pc lw (.ref a :: rest) ws)
    (k : AZ ZZ G ad T mk w0 pin (lv, i :: st, ev, ca, rl, nx) pc') : AZ ZZ G ad T mk w0 pin (lv, r :: st, ev, ca, rl, nx) pc := by
  intro ν lw sw ws h
  obtain ⟨h1, h2, h3⟩ := h
  have h3 : AK G ad T mk w0 pin (lv, st, ev, ca, rl, nx) ν ws := h3
  have h2' : sw = ν r :: st.map ν := h2
  obtain ⟨fs, v, q1, q2, q3, q4⟩ := h3.2.2.2.2.2.1.obj hT ht
  have h5 := h3.2.2.1 _ hc
  rw [fget_of q1] at h5
  rw [h2', h3.ref hr]
  exact row _ fs _ lw _ ws q1 h5 (k ν _ _ _ ⟨h1, rfl, h3⟩)
def acut (k j : Nat) (ca : ACa) : ACa := ca.filter (fun q => !(Nat.beq q.1 k && Nat.beq q.2.1 j))
theorem az_put {r x j ci : Nat} {ts : List VT} {t : VT} (hr : (aty ev r).1 = 2) (hT : T[(aty ev r).2.1.toNat]? = some (.inl (ci, ts))) (ht : ts[j]? = some t) (hv : vsub ev rl x t = true) (hm : mkq mk (aty ev r).2.1.toNat j = true) (hpf : ∀ (ν : Nat → Value) (ws : va_W), AK G ad T mk w0 pin (lv, st, ev, ca, rl, nx) ν ws → ∀ (k' n : Nat) (t' : VT), T[k']? = some (.inr (0, n, t')) → 2 ≤ t'.1 → pcl t'.1 = (aty ev r).2.1.toNat → pfl t'.1 = j → t.1 = 0 ∧ ∃ o : Nat, fget ws (aty ev r).2.1.toNat j = some (ν o) ∧ pord t'.1 (vI (ν x)) (vI (ν o)))
    (row : ∀ (a : Nat) (fs : List Value) (v : Value) (lw : List (Nat × Value)) (rest : List Value) (ws : va_W), ws[(aty ev r).2.1.toNat]? = some (a, ob ci fs) → j < fs.length → vty ad t v → ZZ pc' lw rest (ws.set (aty ev r).2.1.toNat (a, ob ci (fs.set j v))) → ZZ pc lw (v :: .ref a :: rest) ws)
    (k : AZ ZZ G ad T mk w0 pin (lv, st, ev, ((aty ev r).2.1.toNat, j, x) :: acut (aty ev r).2.1.toNat j ca, rl, nx) pc') : AZ ZZ G ad T mk w0 pin (lv, x :: r :: st, ev, ca, rl, nx) pc := by
  intro ν lw sw ws h
  obtain ⟨h1, h2, h3⟩ := h
  have h3 : AK G ad T mk w0 pin (lv, st, ev, ca, rl, nx) ν ws := h3
  have h2' : sw = ν x :: ν r :: st.map ν := h2
  obtain ⟨fs, v, q1, q2, q3, q4⟩ := h3.2.2.2.2.2.1.obj hT ht
  have hj := lt_of_getE q3
  rw [h2', h3.ref hr]
  have hvx := h3.sub hv
  refine row _ fs _ lw _ ws q1 hj hvx (k ν _ _ _ ⟨h1, rfl, h3.1, h3.2.1, fun q hq => ?_, h3.2.2.2.1, h3.2.2.2.2.1, h3.2.2.2.2.2.1.setO hT ht q1 hvx (fun k' n t' g1 g2 g3 g4 => ?_), ?_⟩)
  rotate_left
  · obtain ⟨u1, o, u2, u3⟩ := hpf ν ws h3 k' n t' g1 g2 g3 g4
    obtain ⟨x1, e1, -⟩ := vty0 q4 u1
    obtain ⟨x2, e2, -⟩ := vty0 hvx u1
    rw [fget_of q1, q3, Option.some.injEq] at u2
    rw [e2, ← u2, e1] at u3
    exact ⟨x1, x2, by rw [q3, e1], e2, u3⟩
  rotate_left
  · rcases List.mem_cons.mp hq with e | hq
    · rw [e]
      show fget _ _ j = some (ν x)
      rw [fget_of (set_same q1), List.getElem?_set_self hj]
    · obtain ⟨m1, m2⟩ := List.mem_filter.mp hq
      rw [fget_set q1]
      · exact h3.2.2.1 q m1
      · rintro ⟨e1, e2⟩
        rw [e1, e2] at m2
        simp at m2
  · obtain ⟨f1, f2⟩ := h3.2.2.2.2.2.2
    refine ⟨by rw [List.length_set]; exact f1, fun k' j' hk => ?_⟩
    rw [cget_set q1]
    · exact f2 k' j' hk
    · rintro ⟨e1, e2⟩
      rw [e1, e2, hm] at hk
      cases hk
theorem WT.arr (h : WT G ad T ws) {k kd n : Nat} {t : VT} (hT : T[k]? = some (.inr (kd, n, t))) : ∃ en, ws[k]? = some (ad k, en) ∧ ((kd = 0 ∧ ∃ f, en = aI G n f ∧ aint n t f) ∨ (kd = 1 ∧ ∃ f : Nat → Int64, en = aJ G n f) ∨ (kd = 2 ∧ ∃ f, en = aZ G n f ∧ aint n t f) ∨ (kd = 3 ∧ ∃ f, en = aO G n f ∧ ∀ k, k < n → f k = some (ad (t.2.1.toNat + k * t.2.2.toNat)))) := h.2.1 k _ hT
/-- what an array gives, what it takes -/
def atyA (kd : Nat) (t : VT) : VT := bif Nat.beq kd 1 then tL0 else (0, t.2.1, t.2.2)
theorem az_ald {a i n kd : Nat} {t : VT} (hk : kd ≤ 2) (ha : (aty ev a).1 = 2) (hT : T[(aty ev a).2.1.toNat]? = some (.inr (kd, n, t))) (hi : (aty ev i).1 = 0) (hin : ain ev rl i n = true) (hf : afr (lv, i :: a :: st, ev, ca, rl, nx) = true) {rt : VT} {nr : ARl} (hnr : ∀ (ν : Nat → Value) (ws : va_W), AK G ad T mk w0 pin (lv, st, ev, ca, rl, nx) ν ws → ∀ (v : Value), (∀ (b : Nat) (f : Nat → Int32) (x : Int32), kd = 0 → ws[(aty ev a).2.1.toNat]? = some (b, aI G n f) → ν i = .int x → x.toNatClampNeg < n → v = .int (f x.toNatClampNeg)) → ∀ q ∈ nr, vI (nup ν nx v q.1) ≤ vI (nup ν nx v q.2.1) + q.2.2) (hn1 : kd ≠ 0 → nr = []) (hr0 : kd = 0 → ∀ (ν : Nat → Value) (ws : va_W), AK G ad T mk w0 pin (lv, st, ev, ca, rl, nx) ν ws → ∀ (b : Nat) (f : Nat → Int32) (x : Int32), ws[(aty ev a).2.1.toNat]? = some (b, aI G n f) → ν i = .int x → x.toNatClampNeg < n → aint n t f → 0 ≤ x.toInt → vty ad rt (.int (f x.toNatClampNeg))) (hr1 : kd ≠ 0 → rt = atyA kd t)
    (row0 : kd = 0 → ∀ (b : Nat) (f : Nat → Int32) (x : Int32) (lw : List (Nat × Value)) (rest : List Value) (ws : va_W), ws[(aty ev a).2.1.toNat]? = some (b, aI G n f) → vp_in x n → ZZ pc' lw (.int (f x.toNatClampNeg) :: rest) ws → ZZ pc lw (.int x :: .ref b :: rest) ws)
    (row1 : kd = 1 → ∀ (b : Nat) (f : Nat → Int64) (x : Int32) (lw : List (Nat × Value)) (rest : List Value) (ws : va_W), ws[(aty ev a).2.1.toNat]? = some (b, aJ G n f) → vp_in x n → ZZ pc' lw (.long (f x.toNatClampNeg) :: rest) ws → ZZ pc lw (.int x :: .ref b :: rest) ws)
    (row2 : kd = 2 → ∀ (b : Nat) (f : Nat → Int32) (x : Int32) (lw : List (Nat × Value)) (rest : List Value) (ws : va_W), ws[(aty ev a).2.1.toNat]? = some (b, aZ G n f) → vp_in x n → ZZ pc' lw (.int (f x.toNatClampNeg) :: rest) ws → ZZ pc lw (.int x :: .ref b :: rest) ws)
    (k : AZ ZZ G ad T mk w0 pin (lv, nx :: st, (nx, rt) :: ev, ca, nr ++ rl, nx + 1) pc') : AZ ZZ G ad T mk w0 pin (lv, i :: a :: st, ev, ca, rl, nx) pc := by
  intro ν lw sw ws h
  obtain ⟨h1, h2, h3⟩ := h
  have h3 : AK G ad T mk w0 pin (lv, st, ev, ca, rl, nx) ν ws := h3
  have h2' : sw = ν i :: ν a :: st.map ν := h2
  obtain ⟨x, hx⟩ := h3.int hi
  obtain ⟨v1, v2⟩ := h3.inr hin hx
  have hf2 := afr_pop (afr_pop hf)
  have hg : AG G ad T mk w0 pin (lv, st, ev, ca, rl, nx) ν lw (st.map ν) ws := ⟨h1, rfl, h3⟩
  rw [h2', h3.ref ha, hx]
  obtain ⟨en, q1, q2⟩ := h3.2.2.2.2.2.1.arr hT
  rcases q2 with ⟨rfl, f, rfl, q3⟩ | ⟨rfl, f, rfl⟩ | ⟨rfl, f, rfl, q3⟩ | ⟨rfl, -⟩
  · exact row0 rfl _ f x lw _ ws q1 v1 (k _ _ _ _ (AG.push hg hf2 (hr0 rfl ν ws h3 _ f x q1 hx v2 q3 (vin0 v1)) (hnr ν ws h3 _ (fun b' f' x' _ w1 w2 _ => by
      rw [q1] at w1
      cases w1
      rw [hx] at w2
      cases w2
      rfl))))
  · rw [hr1 (by decide), hn1 (by decide)] at k
    exact row1 rfl _ f x lw _ ws q1 v1 (k _ _ _ _ (AG.push (nr := []) hg hf2 (vty_l0 _) (fun q hq => by cases hq)))
  · rw [hr1 (by decide), hn1 (by decide)] at k
    exact row2 rfl _ f x lw _ ws q1 v1 (k _ _ _ _ (AG.push (nr := []) hg hf2 (vty_i (q3 _ v2).1 (q3 _ v2).2.1) (fun q hq => by cases hq)))
  · omega
theorem aint_upd {n j : Nat} {t : VT} {f : Nat → Int32} {x : Int32} (h : aint n t f) (h1 : t.2.1 ≤ x.toInt) (h2 : x.toInt ≤ t.2.2) (h3 : t.1 = 1 → (KTY j).1 ≤ x.toInt ∧ x.toInt ≤ (KTY j).2) : aint n t (upd f j x) := by
  intro k hk
  unfold upd
  split
  · rename_i e
    exact ⟨h1, h2, by rw [e]; exact h3⟩
  · exact h k hk
theorem nar_z {x : Int32} (h1 : 0 ≤ x.toInt) (h2 : x.toInt ≤ 1) : narrow .boolean (.int x) = .int x := by
  rcases (by omega : x.toInt = 0 ∨ x.toInt = 1) with e | e
  · have : x = 0 := Int32.toInt_inj.mp (by rw [e]; rfl)
    rw [this]; rfl
  · have : x = 1 := Int32.toInt_inj.mp (by rw [e]; rfl)
    rw [this]; rfl
theorem vnar_z {x : Int32} (h1 : 0 ≤ x.toInt) (h2 : x.toInt ≤ 1) : vp_nar .boolean x = x := by
  unfold vp_nar
  rw [nar_z h1 h2]
theorem AK.setA (h3 : AK G ad T mk w0 pin (lv, st, ev, ca, rl, nx) ν ws) {k : Nat} {te : TE} {x y : ClassId × vp_A} (hT : T[k]? = some te) (hw : ws[k]? = some (ad k, .inl x)) (hv : ety G ad te (.inl y)) (hpa : ∀ (n : Nat) (t : VT), te = .inr (0, n, t) → 2 ≤ t.1 → ∀ (f : Nat → Int32) (c : Int32) (i : Nat), (Sum.inl y : va_E) = aI G n f → fget ws (pcl t.1) (pfl t.1) = some (.int c) → i < n → PP t.1 i (f i).toInt c.toInt) (hm : mk.any (fun q => Nat.beq q.1 k && Nat.beq q.2 999) = true) : AK G ad T mk w0 pin (lv, st, ev, ca, rl, nx) ν (ws.set k (ad k, .inl y)) := by
  refine ⟨h3.1, h3.2.1, fun q hq => fget_arr hw (h3.2.2.1 q hq), h3.2.2.2.1, h3.2.2.2.2.1, h3.2.2.2.2.2.1.setA hT hw hv hpa, ?_⟩
  obtain ⟨f1, f2⟩ := h3.2.2.2.2.2.2
  refine ⟨by rw [List.length_set]; exact f1, fun k' j' hk => ?_⟩
  rw [cget_arr]
  · exact f2 k' j' hk
  · intro e
    rw [e, mkq_arr hm] at hk
    cases hk
theorem az_ast {a i v n kd : Nat} {t : VT} (hk : kd ≤ 2) (ha : (aty ev a).1 = 2) (hT : T[(aty ev a).2.1.toNat]? = some (.inr (kd, n, t))) (hi : (aty ev i).1 = 0) (hin : ain ev rl i n = true) (hv : vsub ev rl v (atyA kd t) = true) (hz : kd = 2 → (0 ≤ t.2.1 ∧ t.2.2 ≤ 1) ∧ t.1 = 0) (hp : kd = 0 → ∀ (ν : Nat → Value) (ws : va_W), AK G ad T mk w0 pin (lv, st, ev, ca, rl, nx) ν ws → ∀ x y : Int32, ν i = .int x → ν v = .int y → 0 ≤ x.toInt → (t.1 = 1 → (KTY x.toNatClampNeg).1 ≤ y.toInt ∧ y.toInt ≤ (KTY x.toNatClampNeg).2) ∧ (2 ≤ t.1 → ∀ c : Int32, fget ws (pcl t.1) (pfl t.1) = some (.int c) → PP t.1 x.toNatClampNeg y.toInt c.toInt)) (hm : mk.any (fun q => Nat.beq q.1 (aty ev a).2.1.toNat && Nat.beq q.2 999) = true)
    (row0 : kd = 0 → ∀ (b : Nat) (f : Nat → Int32) (x y : Int32) (lw : List (Nat × Value)) (rest : List Value) (ws : va_W), ws[(aty ev a).2.1.toNat]? = some (b, aI G n f) → vp_in x n → ZZ pc' lw rest (ws.set (aty ev a).2.1.toNat (b, aI G n (upd f x.toNatClampNeg y))) → ZZ pc lw (.int y :: .int x :: .ref b :: rest) ws)
    (row1 : kd = 1 → ∀ (b : Nat) (f : Nat → Int64) (x : Int32) (y : Int64) (lw : List (Nat × Value)) (rest : List Value) (ws : va_W), ws[(aty ev a).2.1.toNat]? = some (b, aJ G n f) → vp_in x n → ZZ pc' lw rest (ws.set (aty ev a).2.1.toNat (b, aJ G n (vp_updL f x.toNatClampNeg y))) → ZZ pc lw (.long y :: .int x :: .ref b :: rest) ws)
    (row2 : kd = 2 → ∀ (b : Nat) (f : Nat → Int32) (x y : Int32) (lw : List (Nat × Value)) (rest : List Value) (ws : va_W), ws[(aty ev a).2.1.toNat]? = some (b, aZ G n f) → vp_in x n → ZZ pc' lw rest (ws.set (aty ev a).2.1.toNat (b, aZ G n (upd f x.toNatClampNeg (vp_nar .boolean y)))) → ZZ pc lw (.int y :: .int x :: .ref b :: rest) ws)
    (k : AZ ZZ G ad T mk w0 pin (lv, st, ev, ca, rl, nx) pc') : AZ ZZ G ad T mk w0 pin (lv, v :: i :: a :: st, ev, ca, rl, nx) pc := by
  intro ν lw sw ws h
  obtain ⟨h1, h2, h3⟩ := h
  have h3 : AK G ad T mk w0 pin (lv, st, ev, ca, rl, nx) ν ws := h3
  have h2' : sw = ν v :: ν i :: ν a :: st.map ν := h2
  obtain ⟨x, hx⟩ := h3.int hi
  obtain ⟨v1, v2⟩ := h3.inr hin hx
  rw [h2', h3.ref ha, hx]
  have hvx := h3.sub hv
  obtain ⟨en, q1, q2⟩ := h3.2.2.2.2.2.1.arr hT
  rcases q2 with ⟨rfl, f, rfl, q3⟩ | ⟨rfl, f, rfl⟩ | ⟨rfl, f, rfl, q3⟩ | ⟨rfl, -⟩
  · obtain ⟨y, hy, y1, y2⟩ := vty0 hvx rfl
    rw [hy]
    have x0 : 0 ≤ x.toInt := vin0 v1
    obtain ⟨p1, p2⟩ := hp rfl ν ws h3 x y hx hy x0
    have ex : (x.toNatClampNeg : Int) = x.toInt := by
      show ((x.toInt).toNat : Int) = x.toInt
      omega
    refine row0 rfl _ f x y lw _ ws q1 v1 (k ν _ _ _ ⟨h1, rfl, h3.setA hT q1 (Or.inl ⟨rfl, _, rfl, aint_upd q3 y1 y2 p1⟩) (fun n' t' e' g2 f' c i g3 g4 g5 => ?_) hm⟩)
    cases e'
    cases g3
    unfold upd
    split
    · rename_i ei
      rw [ei]
      exact p2 g2 c g4
    · exact h3.2.2.2.2.2.1.2.2 _ _ _ _ f c i hT g2 q1 g4 g5
  · obtain ⟨y, hy, y1, y2⟩ := vty1 hvx rfl
    rw [hy]
    exact row1 rfl _ f x y lw _ ws q1 v1 (k ν _ _ _ ⟨h1, rfl, h3.setA hT q1 (Or.inr (Or.inl ⟨rfl, _, rfl⟩)) (fun n' t' e' => by cases e') hm⟩)
  · obtain ⟨y, hy, y1, y2⟩ := vty0 hvx rfl
    have y1 : t.2.1 ≤ y.toInt := y1
    have y2 : y.toInt ≤ t.2.2 := y2
    rw [hy]
    obtain ⟨⟨z1, z2⟩, z3⟩ := hz rfl
    refine row2 rfl _ f x y lw _ ws q1 v1 (k ν _ _ _ ⟨h1, rfl, h3.setA hT q1 (Or.inr (Or.inr (Or.inl ⟨rfl, _, rfl, ?_⟩))) (fun n' t' e' => by cases e') hm⟩)
    rw [vnar_z (by omega) (by omega)]
    exact aint_upd q3 y1 y2 (fun e => by rw [z3] at e; cases e)
  · omega
end AZ2
