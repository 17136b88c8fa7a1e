/-- from every state that σ tells of -/
abbrev ZZT : Type := Nat → List (Nat × Value) → List Value → va_W → Prop
def AZ (ZZ : ZZT) (G : KG) (ad : Nat → Nat) (T : List TE) (mk : List (Nat × Nat)) (w0 : va_W) (pin : List (Nat × Value)) (σ : AS) (pc : Nat) : Prop := ∀ (ν : Nat → Value) (lv : List (Nat × Value)) (st : List Value) (ws : va_W), AG G ad T mk w0 pin σ ν lv st ws → ZZ pc lv st ws
def tagv : Nat → Value → Prop
  | 0, v => ∃ x : Int32, v = .int x
  | 1, v => ∃ x : Int64, v = .long x
  | 2, v => ∃ a : Nat, v = .ref a
  | _, _ => False
def fitI (a b : Int) : VT := bif decide (iMin ≤ a) && decide (b ≤ iMax) then (0, a, b) else tI0
def mnz (c : Bool) (r : ARl) : ARl := bif c then r else []
section AZ1
variable {ZZ : ZZT} {G : KG} {ad : Nat → Nat} {T : List TE} {mk : List (Nat × Nat)} {w0 : va_W} {pin : List (Nat × Value)}
variable {lv : ALv} {st : List Nat} {ev : AEv} {ca : ACa} {rl : ARl} {nx pc pc' : Nat}
theorem AK.tag {ν : Nat → Value} {ws : va_W} (h : AK G ad T mk w0 pin (lv, st, ev, ca, rl, nx) ν ws) {i k : Nat} (e : (aty ev i).1 = k) (h9 : k ≤ 2) : tagv k (ν i) := by
  match k, h9 with
  | 0, _ => exact h.int e
  | 1, _ => exact h.long e
  | 2, _ => exact ⟨_, h.ref e⟩
theorem az_un {op : Value → Value} {kx : Nat} (hk : kx ≤ 2) (row : ∀ (vx : Value) (lw : List (Nat × Value)) (rest : List Value) (ws : va_W), tagv kx vx → ZZ pc' lw (op vx :: rest) ws → ZZ pc lw (vx :: rest) ws) {x : Nat} (hx : (aty ev x).1 = kx) (hf : afr (lv, x :: st, ev, ca, rl, nx) = true) {t : VT} {nr : ARl}
    (ht : ∀ (ν : Nat → Value) (ws : va_W), AK G ad T mk w0 pin (lv, st, ev, ca, rl, nx) ν ws → tagv kx (ν x) → vty ad t (op (ν x)) ∧ ∀ q ∈ nr, vI (nup ν nx (op (ν x)) q.1) ≤ vI (nup ν nx (op (ν x)) q.2.1) + q.2.2)
    (k : AZ ZZ G ad T mk w0 pin (lv, nx :: st, (nx, t) :: ev, ca, nr ++ rl, nx + 1) pc') : AZ ZZ G ad T mk w0 pin (lv, x :: st, ev, ca, rl, nx) pc := by
  intro ν lw sw ws h
  obtain ⟨h1, h2, h3⟩ := h
  have h3 : AK G ad T mk w0 pin (lv, st, ev, ca, rl, nx) ν ws := h3
  have tx := h3.tag hx hk
  have h2' : sw = ν x :: st.map ν := h2
  rw [h2']
  obtain ⟨q1, q2⟩ := ht ν ws h3 tx
  exact row _ lw _ ws tx (k _ _ _ _ (AG.push ⟨h1, rfl, h3⟩ (afr_pop hf) q1 q2))
theorem az_bin {op : Value → Value → Value} {kx ky : Nat} (hk : kx ≤ 2 ∧ ky ≤ 2) (row : ∀ (vx vy : Value) (lw : List (Nat × Value)) (rest : List Value) (ws : va_W), tagv kx vx → tagv ky vy → ZZ pc' lw (op vx vy :: rest) ws → ZZ pc lw (vy :: vx :: rest) ws) {x y : Nat} (hx : (aty ev x).1 = kx) (hy : (aty ev y).1 = ky) (hf : afr (lv, y :: x :: st, ev, ca, rl, nx) = true) {t : VT} {nr : ARl}
    (ht : ∀ (ν : Nat → Value) (ws : va_W), AK G ad T mk w0 pin (lv, st, ev, ca, rl, nx) ν ws → tagv kx (ν x) → tagv ky (ν y) → vty ad t (op (ν x) (ν y)) ∧ ∀ q ∈ nr, vI (nup ν nx (op (ν x) (ν y)) q.1) ≤ vI (nup ν nx (op (ν x) (ν y)) q.2.1) + q.2.2)
    (k : AZ ZZ G ad T mk w0 pin (lv, nx :: st, (nx, t) :: ev, ca, nr ++ rl, nx + 1) pc') : AZ ZZ G ad T mk w0 pin (lv, y :: x :: st, ev, ca, rl, nx) pc := by
  intro ν lw sw ws h
  obtain ⟨h1, h2, h3⟩ := h
  have h3 : AK G ad T mk w0 pin (lv, st, ev, ca, rl, nx) ν ws := h3
  have tx := h3.tag hx hk.1
  have ty := h3.tag hy hk.2
  have h2' : sw = ν y :: ν x :: st.map ν := h2
  rw [h2']
  obtain ⟨q1, q2⟩ := ht ν ws h3 tx ty
  exact row _ _ lw _ ws tx ty (k _ _ _ _ (AG.push ⟨h1, rfl, h3⟩ (afr_pop (afr_pop hf)) q1 q2))
theorem az_con {v : Value} {t : VT} (row : ∀ (lw : List (Nat × Value)) (rest : List Value) (ws : va_W), ZZ pc' lw (v :: rest) ws → ZZ pc lw rest ws) (hf : afr (lv, st, ev, ca, rl, nx) = true) (ht : vty ad t v)
    (k : AZ ZZ G ad T mk w0 pin (lv, nx :: st, (nx, t) :: ev, ca, rl, nx + 1) pc') : AZ ZZ G ad T mk w0 pin (lv, st, ev, ca, rl, nx) pc := by
  intro ν lw sw ws h
  exact row lw _ ws (k _ _ _ _ (AG.push (nr := []) h hf ht (fun q hq => by cases hq)))
/-- a local's name -/
def alv : ALv → Nat → Option Nat
  | [], _ => none
  | q :: l, i => bif Nat.beq q.1 i then some q.2.1 else alv l i
theorem alv_mem : ∀ (lv : ALv) (i n : Nat), alv lv i = some n → ∃ b, (i, n, b) ∈ lv
  | [], i, n, h => by cases h
  | q :: l, i, n, h => by
    unfold alv at h
    cases hb : Nat.beq q.1 i with
    | true =>
      rw [hb] at h
      cases h
      have e : q.1 = i := Nat.eq_of_beq_eq_true hb
      subst e
      exact ⟨q.2.2, List.mem_cons_self⟩
    | false =>
      rw [hb] at h
      obtain ⟨b, hm⟩ := alv_mem l i n h
      exact ⟨b, List.mem_cons_of_mem _ hm⟩
theorem az_load {kx i x : Nat} (hk : kx ≤ 2) (row : ∀ (v : Value) (lw : List (Nat × Value)) (rest : List Value) (ws : va_W) (q : Nat), lw[q]? = some (i, v) → tagv kx v → ZZ pc' lw (v :: rest) ws → ZZ pc lw rest ws) (hi : alv lv i = some x) (hx : (aty ev x).1 = kx)
    (k : AZ ZZ G ad T mk w0 pin (lv, x :: st, ev, ca, rl, nx) pc') : AZ ZZ G ad T mk w0 pin (lv, st, ev, ca, rl, nx) pc := by
  intro ν lw sw ws h
  obtain ⟨h1, h2, h3⟩ := h
  obtain ⟨b, hm⟩ := alv_mem lv i x hi
  have hm2 : (i, ν x) ∈ lw := by
    rw [h1]
    exact List.mem_map.mpr ⟨_, hm, rfl⟩
  obtain ⟨q, hq⟩ := List.getElem?_of_mem hm2
  have h3' : AK G ad T mk w0 pin (lv, st, ev, ca, rl, nx) ν ws := h3
  refine row (ν x) lw sw ws q hq (h3'.tag hx hk) (k ν lw _ ws ⟨h1, ?_, h3⟩)
  show ν x :: sw = ν x :: st.map ν
  rw [h2]
/-- a local told anew -/
def aset (i : Nat) (n : Nat) (two : Bool) (lv : ALv) : ALv := (i, n, two) :: lv.filter (fun q => bif two then !(Nat.beq q.1 i) && (!(Nat.beq q.1 (i + 1)) && !(Nat.beq (q.1 + 1) i && q.2.2)) else !(Nat.beq q.1 i) && !(Nat.beq (q.1 + 1) i && q.2.2))
theorem nbeq (a b : Nat) : Nat.beq a b = (a == b) := by
  cases h : (a == b) with
  | true =>
    have e : a = b := by simpa using h
    rw [e]; exact Nat.beq_refl b
  | false =>
    cases h2 : Nat.beq a b with
    | true =>
      have e := Nat.eq_of_beq_eq_true h2
      rw [e] at h
      simp at h
    | false => rfl
theorem aset1 {ν : Nat → Value} (lv : ALv) (hc : ∀ q ∈ lv, (ν q.2.1).category = bif q.2.2 then 2 else 1) (i n : Nat) : (aset i n false lv).map (fun q => (q.1, ν q.2.1)) = zs1 i (ν n) (lv.map (fun q => (q.1, ν q.2.1))) := by
  unfold aset zs1
  rw [List.map_cons, List.filter_map]
  congr 2
  refine List.filter_congr (fun q hq => ?_)
  have := hc q hq
  simp only [Function.comp, cond_false, nbeq]
  rw [this]
  cases q.2.2 <;> rfl
theorem aset2 {ν : Nat → Value} (lv : ALv) (hc : ∀ q ∈ lv, (ν q.2.1).category = bif q.2.2 then 2 else 1) (i n : Nat) : (aset i n true lv).map (fun q => (q.1, ν q.2.1)) = zs2 i (ν n) (lv.map (fun q => (q.1, ν q.2.1))) := by
  unfold aset zs2
  rw [List.map_cons, List.filter_map]
  congr 2
  refine List.filter_congr (fun q hq => ?_)
  have := hc q hq
  simp only [Function.comp, cond_true, nbeq]
  rw [this]
  cases q.2.2 <;> rfl
theorem aset_cat {ν : Nat → Value} {lv : ALv} (hc : ∀ q ∈ lv, (ν q.2.1).category = bif q.2.2 then 2 else 1) {i n : Nat} {two : Bool} (hn : (ν n).category = bif two then 2 else 1) : ∀ q ∈ aset i n two lv, (ν q.2.1).category = bif q.2.2 then 2 else 1 := by
  intro q hq
  unfold aset at hq
  rcases List.mem_cons.mp hq with e | hq
  · rw [e]; exact hn
  · exact hc q (List.mem_filter.mp hq).1
theorem az_store {kx i x : Nat} {two : Bool} (hk : kx ≤ 2) (h2k : two = Nat.beq kx 1) (row : ∀ (v : Value) (lw : List (Nat × Value)) (rest : List Value) (ws : va_W), tagv kx v → ZZ pc' (bif two then zs2 i v lw else zs1 i v lw) rest ws → ZZ pc lw (v :: rest) ws) (hx : (aty ev x).1 = kx)
    (k : AZ ZZ G ad T mk w0 pin (aset i x two lv, st, ev, ca, rl, nx) pc') : AZ ZZ G ad T mk w0 pin (lv, x :: st, ev, ca, rl, nx) pc := by
  intro ν lw sw ws h
  obtain ⟨h1, h2, h3⟩ := h
  have h3' : AK G ad T mk w0 pin (lv, st, ev, ca, rl, nx) ν ws := h3
  have tx := h3'.tag hx hk
  have h2' : sw = ν x :: st.map ν := h2
  rw [h2']
  have hcat : (ν x).category = bif two then 2 else 1 := by
    match kx, hk, h2k, tx with
    | 0, _, h2k, ⟨a, ha⟩ => rw [ha, h2k]; rfl
    | 1, _, h2k, ⟨a, ha⟩ => rw [ha, h2k]; rfl
    | 2, _, h2k, ⟨a, ha⟩ => rw [ha, h2k]; rfl
  refine row _ lw _ ws tx (k ν _ _ ws ⟨?_, rfl, aset_cat h3.1 hcat, h3.2⟩)
  cases two with
  | true =>
    show zs2 i (ν x) lw = _
    rw [h1]
    exact (aset2 lv h3.1 i x).symm
  | false =>
    show zs1 i (ν x) lw = _
    rw [h1]
    exact (aset1 lv h3.1 i x).symm
theorem az_pop {x : Nat} (hx : (aty ev x).1 = 0 ∨ (aty ev x).1 = 2) (row : ∀ (v : Value) (lw : List (Nat × Value)) (rest : List Value) (ws : va_W), v.category = 1 → ZZ pc' lw rest ws → ZZ pc lw (v :: rest) ws)
    (k : AZ ZZ G ad T mk w0 pin (lv, st, ev, ca, rl, nx) pc') : AZ ZZ G ad T mk w0 pin (lv, x :: st, ev, ca, rl, nx) pc := by
  intro ν lw sw ws h
  obtain ⟨h1, h2, h3⟩ := h
  have h3' : AK G ad T mk w0 pin (lv, st, ev, ca, rl, nx) ν ws := h3
  have h2' : sw = ν x :: st.map ν := h2
  rw [h2']
  have hcat : (ν x).category = 1 := by
    rcases hx with hx | hx
    · obtain ⟨a, ha⟩ := h3'.int hx
      rw [ha]; rfl
    · rw [h3'.ref hx]; rfl
  exact row _ lw _ ws hcat (k ν _ _ ws ⟨h1, rfl, h3⟩)
theorem az_dup {x : Nat} (hx : (aty ev x).1 = 0 ∨ (aty ev x).1 = 2) (row : ∀ (v : Value) (lw : List (Nat × Value)) (rest : List Value) (ws : va_W), v.category = 1 → ZZ pc' lw (v :: v :: rest) ws → ZZ pc lw (v :: rest) ws)
    (k : AZ ZZ G ad T mk w0 pin (lv, x :: x :: st, ev, ca, rl, nx) pc') : AZ ZZ G ad T mk w0 pin (lv, x :: st, ev, ca, rl, nx) pc := by
  intro ν lw sw ws h
  obtain ⟨h1, h2, h3⟩ := h
  have h3' : AK G ad T mk w0 pin (lv, st, ev, ca, rl, nx) ν ws := h3
  have h2' : sw = ν x :: st.map ν := h2
  rw [h2']
  have hcat : (ν x).category = 1 := by
    rcases hx with hx | hx
    · obtain ⟨a, ha⟩ := h3'.int hx
      rw [ha]; rfl
    · rw [h3'.ref hx]; rfl
  exact row _ lw _ ws hcat (k ν _ _ ws ⟨h1, rfl, h3⟩)
theorem az_dup2 {x y : Nat} (hx : (aty ev x).1 = 0 ∨ (aty ev x).1 = 2) (hy : (aty ev y).1 = 0 ∨ (aty ev y).1 = 2) (row : ∀ (va vb : Value) (lw : List (Nat × Value)) (rest : List Value) (ws : va_W), va.category = 1 → vb.category = 1 → ZZ pc' lw (va :: vb :: va :: vb :: rest) ws → ZZ pc lw (va :: vb :: rest) ws)
    (k : AZ ZZ G ad T mk w0 pin (lv, x :: y :: x :: y :: st, ev, ca, rl, nx) pc') : AZ ZZ G ad T mk w0 pin (lv, x :: y :: st, ev, ca, rl, nx) pc := by
  intro ν lw sw ws h
  obtain ⟨h1, h2, h3⟩ := h
  have h3' : AK G ad T mk w0 pin (lv, st, ev, ca, rl, nx) ν ws := h3
  have h2' : sw = ν x :: ν y :: st.map ν := h2
  rw [h2']
  have hcat : ∀ z, ((aty ev z).1 = 0 ∨ (aty ev z).1 = 2) → (ν z).category = 1 := by
    intro z hz
    rcases hz with hz | hz
    · obtain ⟨a, ha⟩ := h3'.int hz
      rw [ha]; rfl
    · rw [h3'.ref hz]; rfl
  exact row _ _ lw _ ws (hcat x hx) (hcat y hy) (k ν _ _ ws ⟨h1, rfl, h3⟩)
/-- a fact more: x ≤ y + c -/
def ale (x y : Nat) (c : Int) (ev : AEv) (rl : ARl) : AEv × ARl := ((bif isNum (aty ev x) then [(x, (aty ev x).1, (aty ev x).2.1, min (aty ev x).2.2 (xhi ev rl y + c))] else []) ++ ((bif isNum (aty ev y) then [(y, (aty ev y).1, max (aty ev y).2.1 (xlo ev rl x - c), (aty ev y).2.2)] else []) ++ ev), (x, y, c) :: rl)
theorem vty_cut {ad : Nat → Nat} {v : Value} {t : VT} {a b : Int} (h : vty ad t v) (hn : isNum t = true) (h1 : a ≤ vI v) (h2 : vI v ≤ b) : vty ad (t.1, a, b) v := by
  have hn : t.1 ≤ 1 := Nat.le_of_ble_eq_true hn
  rcases h with ⟨e, h, -, -⟩ | ⟨e, h, -, -⟩ | ⟨e, -⟩ | ⟨e, -⟩
  · exact Or.inl ⟨e, h, h1, h2⟩
  · exact Or.inr (Or.inl ⟨e, h, h1, h2⟩)
  · omega
  · omega
theorem AK.le {ν : Nat → Value} {ws : va_W} (h : AK G ad T mk w0 pin (lv, st, ev, ca, rl, nx) ν ws) {x y : Nat} {c : Int} (hle : vI (ν x) ≤ vI (ν y) + c) : AK G ad T mk w0 pin (lv, st, (ale x y c ev rl).1, ca, (ale x y c ev rl).2, nx) ν ws := by
  have hy := h.hi2 y
  have hx := h.lo2 x
  obtain ⟨h1, h2, h3, h4, h5, h6⟩ := h
  have num : ∀ z, isNum (aty ev z) = true → vty ad (aty ev z) (ν z) := fun z hz => (aty_sound ev z h2).resolve_left (fun e => by
    have : (aty ev z).1 ≤ 1 := Nat.le_of_ble_eq_true hz
    omega)
  refine ⟨h1, fun q hq => ?_, h3, fun q hq => ?_, h5, h6⟩
  · unfold ale at hq
    rcases List.mem_append.mp hq with hq | hq
    · cases hn : isNum (aty ev x) with
      | false => rw [hn] at hq; cases hq
      | true =>
        rw [hn] at hq
        rw [List.mem_singleton.mp hq]
        have hw : (aty ev x).2.1 ≤ vI (ν x) ∧ vI (ν x) ≤ (aty ev x).2.2 := aown h2 hn
        exact vty_cut (num x hn) hn hw.1 (show vI (ν x) ≤ min (aty ev x).2.2 (xhi ev rl y + c) by omega)
    · rcases List.mem_append.mp hq with hq | hq
      · cases hn : isNum (aty ev y) with
        | false => rw [hn] at hq; cases hq
        | true =>
          rw [hn] at hq
          rw [List.mem_singleton.mp hq]
          have hw : (aty ev y).2.1 ≤ vI (ν y) ∧ vI (ν y) ≤ (aty ev y).2.2 := aown h2 hn
          exact vty_cut (num y hn) hn (show max (aty ev y).2.1 (xlo ev rl x - c) ≤ vI (ν y) by omega) hw.2
      · exact h2 q hq
  · rcases List.mem_cons.mp hq with e | hq
    · rw [e]; exact hle
    · exact h4 q hq
end AZ1
