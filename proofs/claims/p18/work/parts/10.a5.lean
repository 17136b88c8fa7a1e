/-! branches; switches; arrays of references -/
def chold (c : Nat) (a b : Int) : Prop := match c with
  | 0 => a = b
  | 1 => a ≠ b
  | 2 => a < b
  | 3 => b ≤ a
  | 4 => b < a
  | _ => a ≤ b
def cneg : Nat → Nat
  | 0 => 1
  | 1 => 0
  | 2 => 3
  | 3 => 2
  | 4 => 5
  | _ => 4
def alq (x y : Nat) (c : Int) (ev : AEv) (rl : ARl) : Option (AEv × ARl) := match adif ev rl x 2 y with
  | some d => bif decide (d + c < 0) then none else some (ale x y c ev rl)
  | none => some (ale x y c ev rl)
def leD (x y : Nat) (ev : AEv) (rl : ARl) : Bool := match adif ev rl y 2 x with
  | some d => decide (d ≤ 0)
  | none => false
/-- what is known where x c y -/
def atk (c x y : Nat) (ev : AEv) (rl : ARl) : Option (AEv × ARl) := match c with
  | 0 => match alq x y 0 ev rl with
    | some q => alq y x 0 q.1 q.2
    | none => none
  | 1 => bif leD x y ev rl then alq x y (-1) ev rl else bif leD y x ev rl then alq y x (-1) ev rl else some (ev, rl)
  | 2 => alq x y (-1) ev rl
  | 3 => alq y x 0 ev rl
  | 4 => alq y x (-1) ev rl
  | _ => alq x y 0 ev rl
section AZ3
variable {ZZ : ZZT} {G : KG} {ad : Nat → Nat} {T : List TE} {mk : List (Nat × Nat)} {w0 : va_W} {pin : List (Nat × Value)} {ν : Nat → Value} {ws : va_W}
variable {lv : ALv} {st : List Nat} {ev : AEv} {ca : ACa} {rl : ARl} {nx pc pc' : Nat}
theorem AK.sAl (h : AK G ad T mk w0 pin (lv, st, ev, ca, rl, nx) ν ws) {x y : Nat} {c : Int} (hle : vI (ν x) ≤ vI (ν y) + c) : ∃ q, alq x y c ev rl = some q ∧ AK G ad T mk w0 pin (lv, st, q.1, ca, q.2, nx) ν ws := by
  show ∃ q, (match adif ev rl x 2 y with
    | some d => bif decide (d + c < 0) then none else some (ale x y c ev rl)
    | none => some (ale x y c ev rl)) = some q ∧ _
  cases e : adif ev rl x 2 y with
  | none => exact ⟨_, rfl, h.le hle⟩
  | some d =>
    have h1 := h.dif e
    have h2 : decide (d + c < 0) = false := decide_eq_false (by omega)
    refine ⟨ale x y c ev rl, ?_, h.le hle⟩
    simp only [h2, cond_false]
theorem AK.sLe (h : AK G ad T mk w0 pin (lv, st, ev, ca, rl, nx) ν ws) {x y : Nat} (hle : leD x y ev rl = true) : vI (ν x) ≤ vI (ν y) := by
  have hle : (match adif ev rl y 2 x with
    | some d => decide (d ≤ 0)
    | none => false) = true := hle
  cases e : adif ev rl y 2 x with
  | none => rw [e] at hle; cases hle
  | some d =>
    rw [e] at hle
    have h1 := h.dif e
    have h2 := of_decide_eq_true hle
    omega
theorem AK.tk (h : AK G ad T mk w0 pin (lv, st, ev, ca, rl, nx) ν ws) {c x y : Nat} (hc : chold c (vI (ν x)) (vI (ν y))) : ∃ q, atk c x y ev rl = some q ∧ AK G ad T mk w0 pin (lv, st, q.1, ca, q.2, nx) ν ws := by
  match c, hc with
  | 0, hc =>
    have hc : vI (ν x) = vI (ν y) := hc
    obtain ⟨q, e1, h1⟩ := h.sAl (x := x) (y := y) (c := 0) (by omega)
    obtain ⟨q2, e2, h2⟩ := h1.sAl (x := y) (y := x) (c := 0) (by omega)
    exact ⟨q2, by simp only [atk, e1, e2], h2⟩
  | 1, hc =>
    have hc : vI (ν x) ≠ vI (ν y) := hc
    cases e1 : leD x y ev rl with
    | true =>
      have h1 := h.sLe e1
      obtain ⟨q, e2, h2⟩ := h.sAl (x := x) (y := y) (c := -1) (by omega)
      exact ⟨q, by simp only [atk, e1, cond_true, e2], h2⟩
    | false =>
      cases e3 : leD y x ev rl with
      | true =>
        have h1 := h.sLe e3
        obtain ⟨q, e2, h2⟩ := h.sAl (x := y) (y := x) (c := -1) (by omega)
        exact ⟨q, by simp only [atk, e1, e3, cond_true, cond_false, e2], h2⟩
      | false => exact ⟨(ev, rl), by simp only [atk, e1, e3, cond_false], h⟩
  | 2, hc =>
    have hc : vI (ν x) < vI (ν y) := hc
    exact h.sAl (by omega)
  | 3, hc =>
    have hc : vI (ν y) ≤ vI (ν x) := hc
    exact h.sAl (by omega)
  | 4, hc =>
    have hc : vI (ν y) < vI (ν x) := hc
    exact h.sAl (by omega)
  | n + 5, hc =>
    have hc : vI (ν x) ≤ vI (ν y) := hc
    exact h.sAl (by omega)
theorem az_br {c x y tgt k : Nat} (hk : k ≤ 1) (hx : (aty ev x).1 = k) (hy : (aty ev y).1 = k) (row : ∀ (vx vy : Value) (lw : List (Nat × Value)) (rest : List Value) (ws : va_W), tagv k vx → tagv k vy → (chold c (vI vx) (vI vy) → ZZ tgt lw rest ws) → (chold (cneg c) (vI vx) (vI vy) → ZZ pc' lw rest ws) → ZZ pc lw (vy :: vx :: rest) ws)
    (kt : ∀ q, atk c x y ev rl = some q → AZ ZZ G ad T mk w0 pin (lv, st, q.1, ca, q.2, nx) tgt) (kf : ∀ q, atk (cneg c) x y ev rl = some q → AZ ZZ G ad T mk w0 pin (lv, st, q.1, ca, q.2, nx) pc') : AZ ZZ G ad T mk w0 pin (lv, y :: x :: st, ev, ca, rl, nx) pc := by
  intro ν lw sw ws h
  obtain ⟨h1, h2, h3⟩ := h
  have h3 : AK G ad T mk w0 pin (lv, st, ev, ca, rl, nx) ν ws := h3
  have h2' : sw = ν y :: ν x :: st.map ν := h2
  rw [h2']
  refine row _ _ lw _ ws (h3.tag hx (by omega)) (h3.tag hy (by omega)) (fun hc => ?_) (fun hc => ?_)
  · obtain ⟨q, e, h4⟩ := h3.tk hc
    exact kt q e ν _ _ ws ⟨h1, rfl, h4⟩
  · obtain ⟨q, e, h4⟩ := h3.tk hc
    exact kf q e ν _ _ ws ⟨h1, rfl, h4⟩
theorem az_br0 {c x tgt : Nat} (hx : (aty ev x).1 = 0) (hf : afr (lv, x :: st, ev, ca, rl, nx) = true) (row : ∀ (vx : Value) (lw : List (Nat × Value)) (rest : List Value) (ws : va_W), tagv 0 vx → (chold c (vI vx) 0 → ZZ tgt lw rest ws) → (chold (cneg c) (vI vx) 0 → ZZ pc' lw rest ws) → ZZ pc lw (vx :: rest) ws)
    (kt : ∀ q, atk c x nx ((nx, (0, 0, 0)) :: ev) rl = some q → AZ ZZ G ad T mk w0 pin (lv, st, q.1, ca, q.2, nx + 1) tgt) (kf : ∀ q, atk (cneg c) x nx ((nx, (0, 0, 0)) :: ev) rl = some q → AZ ZZ G ad T mk w0 pin (lv, st, q.1, ca, q.2, nx + 1) pc') : AZ ZZ G ad T mk w0 pin (lv, x :: st, ev, ca, rl, nx) pc := by
  intro ν lw sw ws h
  obtain ⟨h1, h2, h3⟩ := h
  have h3 : AK G ad T mk w0 pin (lv, st, ev, ca, rl, nx) ν ws := h3
  have h2' : sw = ν x :: st.map ν := h2
  rw [h2']
  have hf2 := afr_pop hf
  have hxn : x < nx := (afr_ok hf).2.2.1 x List.mem_cons_self
  have h4 : AK G ad T mk w0 pin (lv, st, (nx, (0, 0, 0)) :: ev, ca, rl, nx + 1) (nup ν nx (.int 0)) ws := h3.new (nr := []) hf2 (vty_i (by decide) (by decide)) (fun q hq => by cases hq)
  have ex : nup ν nx (.int 0) x = ν x := nup_ne hxn
  have en : nup ν nx (.int 0) nx = .int 0 := nup_eq
  have e0 : vI (nup ν nx (.int 0) nx) = 0 := by rw [en]; rfl
  have l1 : lw = lv.map (fun q => (q.1, nup ν nx (.int 0) q.2.1)) := by
    rw [lvs_cong hf2 (fun i hi => nup_ne hi)]; exact h1
  have s1 : st.map ν = st.map (nup ν nx (.int 0)) := (sts_cong hf2 (fun i hi => nup_ne hi)).symm
  refine row _ lw _ ws (h3.tag hx (by omega)) (fun hc => ?_) (fun hc => ?_)
  · obtain ⟨q, e, h5⟩ := h4.tk (c := c) (x := x) (y := nx) (by rw [ex, e0]; exact hc)
    exact kt q e _ _ _ ws ⟨l1, s1, h5⟩
  · obtain ⟨q, e, h5⟩ := h4.tk (c := cneg c) (x := x) (y := nx) (by rw [ex, e0]; exact hc)
    exact kf q e _ _ _ ws ⟨l1, s1, h5⟩
/-- a fact more: x is just v -/
theorem AK.is (h : AK G ad T mk w0 pin (lv, st, ev, ca, rl, nx) ν ws) {x : Nat} (hx : (aty ev x).1 = 0) {v : Int} (hv : vI (ν x) = v) : AK G ad T mk w0 pin (lv, st, (x, (0, v, v)) :: ev, ca, rl, nx) ν ws := by
  refine ⟨h.1, fun q hq => ?_, h.2.2⟩
  rcases List.mem_cons.mp hq with e | hq
  · rw [e]
    obtain ⟨a, ha⟩ := h.int hx
    show vty ad (0, v, v) (ν x)
    rw [ha] at hv ⊢
    have hv : a.toInt = v := hv
    exact vty_i (by omega) (by omega)
  · exact h.2.1 q hq
/-- the places of a switch -/
def aoffs (pc : Nat) (lo : Int) : Nat → List Int → Int → Int → List (Nat × Int)
  | _, [], _, _ => []
  | j, o :: os, a, b => (bif decide (a ≤ lo + j) && decide (lo + j ≤ b) then [(((pc : Int) + o).toNat, lo + j)] else []) ++ aoffs pc lo (j + 1) os a b
theorem aoffs_in {pc : Nat} {lo a b : Int} : ∀ (os : List Int) (j i : Nat) (o : Int), os[i]? = some o → a ≤ lo + ((j + i : Nat) : Int) → lo + ((j + i : Nat) : Int) ≤ b → (((pc : Int) + o).toNat, lo + ((j + i : Nat) : Int)) ∈ aoffs pc lo j os a b
  | [], j, i, o, h, _, _ => by simp at h
  | o' :: os, j, 0, o, h, h1, h2 => by
    cases h
    unfold aoffs
    have h1 : a ≤ lo + (j : Int) := h1
    have h2 : lo + (j : Int) ≤ b := h2
    rw [decide_eq_true h1, decide_eq_true h2]
    exact List.mem_append_left _ (List.mem_singleton.mpr rfl)
  | o' :: os, j, i + 1, o, h, h1, h2 => by
    unfold aoffs
    have e : j + (i + 1) = (j + 1) + i := by omega
    rw [e] at h1 h2 ⊢
    exact List.mem_append_right _ (aoffs_in os (j + 1) i o (by simpa using h) h1 h2)
theorem az_table {x dt : Nat} {dflt lo hi : Int} {offs : List Int} (hx : (aty ev x).1 = 0) (hd : 0 ≤ (pc : Int) + dflt) (hds : dt = ((pc : Int) + dflt).toNat) (hoff : offs.all (fun o => decide (0 ≤ (pc : Int) + o)) = true) (hlen : hi - lo + 1 = (offs.length : Int))
    (rowOut : ∀ (v : Int32) (lw : List (Nat × Value)) (rest : List Value) (ws : va_W), (v.toInt < lo ∨ hi < v.toInt) → ZZ dt lw rest ws → ZZ pc lw (.int v :: rest) ws)
    (rowIn : ∀ (v : Int32) (off : Int) (tgt : Nat) (lw : List (Nat × Value)) (rest : List Value) (ws : va_W), ¬ v.toInt < lo → ¬ hi < v.toInt → offs[(v.toInt - lo).toNat]? = some off → (pc : Int) + off = (tgt : Int) → ZZ tgt lw rest ws → ZZ pc lw (.int v :: rest) ws)
    (kd : (decide (xlo ev rl x < lo) || decide (hi < xhi ev rl x)) = true → AZ ZZ G ad T mk w0 pin (lv, st, ev, ca, rl, nx) dt)
    (kt : ∀ q ∈ aoffs pc lo 0 offs (xlo ev rl x) (xhi ev rl x), AZ ZZ G ad T mk w0 pin (lv, st, (x, (0, q.2, q.2)) :: ev, ca, rl, nx) q.1) : AZ ZZ G ad T mk w0 pin (lv, x :: st, ev, ca, rl, nx) pc := by
  intro ν lw sw ws h
  obtain ⟨h1, h2, h3⟩ := h
  have h3 : AK G ad T mk w0 pin (lv, st, ev, ca, rl, nx) ν ws := h3
  have h2' : sw = ν x :: st.map ν := h2
  obtain ⟨a, ha⟩ := h3.int hx
  have l1 := h3.lo2 x
  have l2 := h3.hi2 x
  rw [ha] at l1 l2
  have l1 : xlo ev rl x ≤ a.toInt := l1
  have l2 : a.toInt ≤ xhi ev rl x := l2
  rw [h2', ha]
  by_cases hin : a.toInt < lo ∨ hi < a.toInt
  · refine rowOut a lw _ ws hin (kd ?_ ν _ _ ws ⟨h1, rfl, h3⟩)
    rw [Bool.or_eq_true, decide_eq_true_eq, decide_eq_true_eq]
    omega
  · have g1 : ¬ a.toInt < lo := fun h => hin (Or.inl h)
    have g2 : ¬ hi < a.toInt := fun h => hin (Or.inr h)
    have hb : (a.toInt - lo).toNat < offs.length := by omega
    have ho := List.getElem?_eq_getElem hb
    have hp := of_decide_eq_true (List.all_eq_true.mp hoff _ (List.mem_of_getElem? ho))
    have hm := aoffs_in (pc := pc) (lo := lo) (a := xlo ev rl x) (b := xhi ev rl x) offs 0 _ _ ho (by omega) (by omega)
    have ev2 : lo + ((0 + (a.toInt - lo).toNat : Nat) : Int) = a.toInt := by omega
    rw [ev2] at hm
    refine rowIn a _ _ lw _ ws g1 g2 ho ?_ (kt _ hm ν _ _ ws ⟨h1, rfl, h3.is hx (by rw [ha]; rfl)⟩)
    show (pc : Int) + _ = ((((pc : Int) + _).toNat : Nat) : Int)
    omega
/-- an array of references: each place by itself -/
def arng : Nat → Nat → List Nat
  | 0, _ => []
  | n + 1, a => a :: arng n (a + 1)
theorem arng_in : ∀ (n a x : Nat), a ≤ x → x < a + n → x ∈ arng n a
  | 0, a, x, h1, h2 => by omega
  | n + 1, a, x, h1, h2 => by
    unfold arng
    by_cases e : x = a
    · rw [e]; exact List.mem_cons_self
    · exact List.mem_cons_of_mem _ (arng_in n (a + 1) x (by omega) (by omega))
theorem az_ald3 {a i n : Nat} {t : VT} (ha : (aty ev a).1 = 2) (hT : T[(aty ev a).2.1.toNat]? = some (.inr (3, n, t))) (hi : (aty ev i).1 = 0) (hin : ain ev rl i n = true) (hf : afr (lv, i :: a :: st, ev, ca, rl, nx) = true)
    (row : ∀ (b : Nat) (f : Nat → Option Nat) (x : Int32) (z : Nat) (lw : List (Nat × Value)) (rest : List Value) (ws : va_W), ws[(aty ev a).2.1.toNat]? = some (b, aO G n f) → vp_in x n → f x.toNatClampNeg = some z → ZZ pc' lw (.ref z :: rest) ws → ZZ pc lw (.int x :: .ref b :: rest) ws)
    (k : ∀ j ∈ arng n 0, AZ ZZ G ad T mk w0 pin (lv, nx :: st, (i, (0, (j : Int), (j : Int))) :: (nx, (2, ((t.2.1.toNat + j * t.2.2.toNat : Nat) : Int), 0)) :: ev, ca, rl, nx + 1) pc') : AZ ZZ G ad T mk w0 pin (lv, i :: a :: st, ev, ca, rl, nx) pc := by
  intro ν lw sw ws h
  obtain ⟨h1, h2, h3⟩ := h
  have h3 : AK G ad T mk w0 pin (lv, st, ev, ca, rl, nx) ν ws := h3
  have h2' : sw = ν i :: ν a :: st.map ν := h2
  obtain ⟨x, hx⟩ := h3.int hi
  obtain ⟨v1, v2⟩ := h3.inr hin hx
  have hf2 := afr_pop (afr_pop hf)
  have hin' : i < nx := (afr_ok hf).2.2.1 i List.mem_cons_self
  have hx0 : (x.toNatClampNeg : Int) = x.toInt := by
    unfold ain at hin
    simp only [Bool.and_eq_true, decide_eq_true_eq] at hin
    have q1 := h3.lo2 i
    rw [hx] at q1
    have q1 : xlo ev rl i ≤ x.toInt := q1
    show ((x.toInt).toNat : Int) = x.toInt
    omega
  rw [h2', h3.ref ha, hx]
  obtain ⟨en, q1, q2⟩ := h3.2.2.2.2.2.1.arr hT
  rcases q2 with ⟨e, -⟩ | ⟨e, -⟩ | ⟨e, -⟩ | ⟨-, f, rfl, q3⟩
  · cases e
  · cases e
  · cases e
  · refine row _ f x _ lw _ ws q1 v1 (q3 _ v2) ?_
    have g := AG.push (st := st) (nr := []) (v := .ref (ad (t.2.1.toNat + x.toNatClampNeg * t.2.2.toNat))) (t := (2, ((t.2.1.toNat + x.toNatClampNeg * t.2.2.toNat : Nat) : Int), 0)) ⟨h1, rfl, h3⟩ hf2 (Or.inr (Or.inr (Or.inl ⟨rfl, rfl⟩))) (fun q hq => by cases hq)
    refine k x.toNatClampNeg (arng_in _ _ _ (Nat.zero_le _) (by omega)) _ _ _ ws ⟨g.1, g.2.1, g.2.2.1, fun q hq => ?_, g.2.2.2.2⟩
    rcases List.mem_cons.mp hq with e | hq
    · rw [e]
      show vty ad (0, (x.toNatClampNeg : Int), (x.toNatClampNeg : Int)) (nup ν nx _ i)
      rw [nup_ne hin', hx]
      exact vty_i (by omega) (by omega)
    · exact g.2.2.2.1 q hq
end AZ3
